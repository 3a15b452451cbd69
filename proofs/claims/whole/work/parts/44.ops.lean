set_option maxHeartbeats 8000000 in
theorem op_lease {c : Int} {A : Nat → List Int} {F : Nat → Int} (hR : REL c A F) (hc : c < 512) (t f n j : Int) (i_t : inI t) (i_f : inI f) (i_n : inI n) (i_j : inI j) (hj : j = 0 ∨ j = 1) : R 83 (0, L0 83 [vR 1, vI t, vI f, vI n, vI j], [], LAY (shA A) (shF F), 0, 0) (fun r G => (∃ x, r = some (vI x)) ∧ (∃ (A1 : Nat → List Int) (F1 : Nat → Int), G = LAY A1 F1 ∧ A1 0 = A 0) ∧ R 158 (0, L0 158 [vR 88, vI t, vI f, vI n, vI j], [], G, 0, 0) (fun r2 G2 => r2 = r ∧ ∃ (A' : Nat → List Int) (F' : Nat → Int), G2 = LAY (shA A') (shF F') ∧ A' 0 = A 0 ∧ REL (c + 1) A' F')) := by
  have hR0 := hR
  obtain ⟨hL, hPE, hTH, hTP, hDE, hLE, hNO, hAC, hRO, hRE⟩ := hR
  have j_t := i_t
  unfold inI at j_t
  have j_f := i_f
  unfold inI at j_f
  have j_n := i_n
  unfold inI at j_n
  have j_j := i_j
  unfold inI at j_j
  have h87 : (A 87).length = 9 := hL 87 (by decide)
  have h15 : (A 15).length = 10 := hL 15 (by decide)
  have h80 : (A 80).length = 30 := hL 80 (by decide)
  have h81 : (A 81).length = 30 := hL 81 (by decide)
  have h82 : (A 82).length = 30 := hL 82 (by decide)
  have h83 : (A 83).length = 30 := hL 83 (by decide)
  have h102 : (A 102).length = 90 := hL 102 (by decide)
  have r2 := REFU_at hRE (k := 2) (by decide) (by decide) hc
  have r3 := REFU_at hRE (k := 3) (by decide) (by decide) hc
  have r4 := REFU_at hRE (k := 4) (by decide) (by decide) hc
  have r5 := REFU_at hRE (k := 5) (by decide) (by decide) hc
  have r6 := REFU_at hRE (k := 6) (by decide) (by decide) hc
  have r7 := REFU_at hRE (k := 7) (by decide) (by decide) hc
  have r8 := REFU_at hRE (k := 8) (by decide) (by decide) hc
  obtain ⟨t1, t2, t3, t4, t5, t6⟩ := hTH
  obtain ⟨p1, p2, p3, p4, p5, p6⟩ := hPE
  have le1 := hLE.1.1
  have le2 := hLE.1.2.1
  have lru := t4 t
  obtain ⟨cf, hcf⟩ : ∃ x, x = LFc (A 80) (A 81) (A 82) (A 83) t f (f + n) (F 16).toNat := ⟨_, rfl⟩
  obtain ⟨fv, hfv⟩ : ∃ x, x = if cf = 0 then (1 : Int) else 0 := ⟨_, rfl⟩
  have g1 : cf = 0 → fv = 1 := fun h => by rw [hfv, if_pos h]
  have g2 : ¬ cf = 0 → fv = 0 := fun h => by rw [hfv, if_neg h]
  obtain ⟨gv, hgv⟩ : ∃ x, x = if cf = 0 then (0 : Int) else 1 := ⟨_, rfl⟩
  have g3 : cf = 0 → gv = 0 := fun h => by rw [hgv, if_pos h]
  have g4 : ¬ cf = 0 → gv = 1 := fun h => by rw [hgv, if_neg h]
  refine R_s (P := True) (f' := (5, [some (vR 1), some (vI t), some (vI f), some (vI n), some (vI j), none, none], [vI t, vR 12], LAY (shA A) (shF F), 0, 0)) hc83 3 rfl trivial ?_
  refine R_cv hc83 rfl rfl ?_ (fun r G h => h)
  refine R_s (P := True) (f' := (1, [some (vR 12), some (vI t)], [vI t], LAY (shA A) (shF F), 0, 0)) hc52 1 rfl trivial ?_
  refine R_if (t := 16) hc52 rfl rfl (fun (c1 : t < 0) => ?_) (fun (c1 : ¬ (t < 0)) => ?_)
  · refine R_s (P := True) (f' := (17, [some (vR 12), some (vI t)], [vI 0], LAY (shA A) (shF F), 0, 0)) hc52 1 rfl trivial ?_
    refine R_retz hc52 rfl rfl (Or.inl rfl) ?_
    refine R_s (f' := (8, [some (vR 1), some (vI t), some (vI f), some (vI n), some (vI j), none, none], [vI 0], LAY (shA A) (shF F), 0, 0)) hc83 0 rfl trivial ?_
    refine R_if (t := 18) hc83 rfl rfl (fun (z : ¬ 0 = 0) => absurd z (by decide)) (fun (_ : ¬ (¬ 0 = 0)) => ?_)
    refine R_s (P := True) (f' := (14, [some (vR 1), some (vI t), some (vI f), some (vI n), some (vI j), none, none], [vI (-3), vR 1], LAY (shA A) (shF F), 0, 0)) hc83 2 rfl trivial ?_
    refine R_cv hc83 rfl rfl ?_ (fun r G h => h)
    refine R_s (P := True) (f' := (3, [some (vR 1), some (vI (-3))], [vI (-2), vI (-3)], LAY (shA A) (shF F), 0, 0)) hc93 2 rfl trivial ?_
    refine R_ic (t := 23) hc93 rfl rfl (fun (z : (-2) < (-3)) => absurd z (by decide)) (fun (_ : ¬ ((-2) < (-3))) => ?_)
    refine R_s (P := True) (f' := (9, [some (vR 1), some (vI (-3))], [vI (-8), vI (-3)], LAY (shA A) (shF F), 0, 0)) hc93 2 rfl trivial ?_
    refine R_ic (t := 23) hc93 rfl rfl (fun (z : (-3) < (-8)) => absurd z (by decide)) (fun (_ : ¬ ((-3) < (-8))) => ?_)
    refine R_s (P := inI 3 ∧ (0 ≤ 3 ∧ 3 < ((A 87).length : Int)) ∧ inI ((rd (A 87) 3) + 1) ∧ (0 ≤ 3 ∧ 3 < ((A 87).length : Int)) ∧ True) (f' := (24, [some (vR 1), some (vI (-3))], [vI (-3)], LAY (u (shA A) 87 (wr (A 87) 3 ((rd (A 87) 3) + 1))) (shF F), 0, 0)) hc93 10 rfl ⟨⟨by omega, by omega⟩, ⟨by omega, by omega⟩, ⟨by omega, by omega⟩, ⟨by omega, by omega⟩, trivial⟩ ?_
    refine R_reti hc93 rfl rfl ?_
    refine R_s (f' := (17, [some (vR 1), some (vI t), some (vI f), some (vI n), some (vI j), none, none], [vI (-3)], LAY (u (shA A) 87 (wr (A 87) 3 ((rd (A 87) 3) + 1))) (shF F), 0, 0)) hc83 0 rfl trivial ?_
    refine R_reti hc83 rfl rfl ⟨⟨_, rfl⟩, ⟨_, _, rfl, rfl⟩, ?_⟩
    refine R_s (P := True) (f' := (2, [some (vR 88), some (vI t), some (vI f), some (vI n), some (vI j), none], [vI t, vR 88], LAY (u (shA A) 87 (wr (A 87) 3 ((rd (A 87) 3) + 1))) (shF F), 0, 0)) hc158 2 rfl trivial ?_
    refine R_cv hc158 rfl rfl ?_ (fun r G h => h)
    refine R_s (P := inI ((F 4) - 1) ∧ True) (f' := (8, [some (vR 88), some (vI t)], [vI ((F 4) - 1), vI 0, vI t], LAY (u (shA A) 87 (wr (A 87) 3 ((rd (A 87) 3) + 1))) (shF F), 0, 0)) hc107 6 rfl ⟨⟨by omega, by omega⟩, trivial⟩ ?_
    refine R_cs hc107 rfl rfl ?_ (fun r G h => h)
    refine R_s (P := True) (f' := (2, [some (vI t), some (vI 0), some (vI ((F 4) - 1))], [vI 0, vI t], LAY (u (shA A) 87 (wr (A 87) 3 ((rd (A 87) 3) + 1))) (shF F), 0, 0)) hc104 2 rfl trivial ?_
    refine R_ic (t := 14) hc104 rfl rfl (fun (_ : t < 0) => ?_) (fun (z : ¬ (t < 0)) => absurd (show t < 0 by omega) z)
    refine R_s (P := True) (f' := (15, [some (vI t), some (vI 0), some (vI ((F 4) - 1))], [vI 0], LAY (u (shA A) 87 (wr (A 87) 3 ((rd (A 87) 3) + 1))) (shF F), 0, 0)) hc104 1 rfl trivial ?_
    refine R_retz hc104 rfl rfl (Or.inl rfl) ?_
    refine R_s (f' := (11, [some (vR 88), some (vI t)], [vI 0], LAY (u (shA A) 87 (wr (A 87) 3 ((rd (A 87) 3) + 1))) (shF F), 0, 0)) hc107 0 rfl trivial ?_
    refine R_retz hc107 rfl rfl (Or.inl rfl) ?_
    refine R_s (f' := (5, [some (vR 88), some (vI t), some (vI f), some (vI n), some (vI j), none], [vI 0], LAY (u (shA A) 87 (wr (A 87) 3 ((rd (A 87) 3) + 1))) (shF F), 0, 0)) hc158 0 rfl trivial ?_
    refine R_if (t := 15) hc158 rfl rfl (fun (z : ¬ 0 = 0) => absurd z (by decide)) (fun (_ : ¬ (¬ 0 = 0)) => ?_)
    refine R_s (P := True) (f' := (11, [some (vR 88), some (vI t), some (vI f), some (vI n), some (vI j), none], [vI (-3), vR 88], LAY (u (shA A) 87 (wr (A 87) 3 ((rd (A 87) 3) + 1))) (shF F), 0, 0)) hc158 2 rfl trivial ?_
    refine R_cv hc158 rfl rfl ?_ (fun r G h => h)
    refine R_s (P := inI 3 ∧ (0 ≤ 3 ∧ 3 < ((A 87).length : Int)) ∧ inI ((rd (A 87) 3) + 1) ∧ (0 ≤ 3 ∧ 3 < ((A 87).length : Int)) ∧ True) (f' := (12, [some (vR 88), some (vI (-3))], [vI (-3)], LAY (u (u (shA A) 87 (wr (A 87) 3 ((rd (A 87) 3) + 1))) 89 (wr (A 87) 3 ((rd (A 87) 3) + 1))) (shF F), 0, 0)) hc105 10 rfl ⟨⟨by omega, by omega⟩, ⟨by omega, by omega⟩, ⟨by omega, by omega⟩, ⟨by omega, by omega⟩, trivial⟩ ?_
    refine R_reti hc105 rfl rfl ?_
    refine R_s (f' := (14, [some (vR 88), some (vI t), some (vI f), some (vI n), some (vI j), none], [vI (-3)], LAY (u (u (shA A) 87 (wr (A 87) 3 ((rd (A 87) 3) + 1))) 89 (wr (A 87) 3 ((rd (A 87) 3) + 1))) (shF F), 0, 0)) hc158 0 rfl trivial ?_
    refine R_reti hc158 rfl rfl ?_
    first
      | (exfalso; omega; done)
      | exact ⟨rfl, (u A 87 (wr (A 87) 3 ((rd (A 87) 3) + 1))), F, rfl, rfl, REL_ref hR0 (by decide) (by decide)⟩
  · refine R_s (P := True) (f' := (9, [some (vR 12), some (vI t)], [vI (F 4), vI t], LAY (shA A) (shF F), 0, 0)) hc52 3 rfl trivial ?_
    refine R_ic (t := 16) hc52 rfl rfl (fun (c2 : F 4 ≤ t) => ?_) (fun (c2 : ¬ (F 4 ≤ t)) => ?_)
    · refine R_s (P := True) (f' := (17, [some (vR 12), some (vI t)], [vI 0], LAY (shA A) (shF F), 0, 0)) hc52 1 rfl trivial ?_
      refine R_retz hc52 rfl rfl (Or.inl rfl) ?_
      refine R_s (f' := (8, [some (vR 1), some (vI t), some (vI f), some (vI n), some (vI j), none, none], [vI 0], LAY (shA A) (shF F), 0, 0)) hc83 0 rfl trivial ?_
      refine R_if (t := 18) hc83 rfl rfl (fun (z : ¬ 0 = 0) => absurd z (by decide)) (fun (_ : ¬ (¬ 0 = 0)) => ?_)
      refine R_s (P := True) (f' := (14, [some (vR 1), some (vI t), some (vI f), some (vI n), some (vI j), none, none], [vI (-3), vR 1], LAY (shA A) (shF F), 0, 0)) hc83 2 rfl trivial ?_
      refine R_cv hc83 rfl rfl ?_ (fun r G h => h)
      refine R_s (P := True) (f' := (3, [some (vR 1), some (vI (-3))], [vI (-2), vI (-3)], LAY (shA A) (shF F), 0, 0)) hc93 2 rfl trivial ?_
      refine R_ic (t := 23) hc93 rfl rfl (fun (z : (-2) < (-3)) => absurd z (by decide)) (fun (_ : ¬ ((-2) < (-3))) => ?_)
      refine R_s (P := True) (f' := (9, [some (vR 1), some (vI (-3))], [vI (-8), vI (-3)], LAY (shA A) (shF F), 0, 0)) hc93 2 rfl trivial ?_
      refine R_ic (t := 23) hc93 rfl rfl (fun (z : (-3) < (-8)) => absurd z (by decide)) (fun (_ : ¬ ((-3) < (-8))) => ?_)
      refine R_s (P := inI 3 ∧ (0 ≤ 3 ∧ 3 < ((A 87).length : Int)) ∧ inI ((rd (A 87) 3) + 1) ∧ (0 ≤ 3 ∧ 3 < ((A 87).length : Int)) ∧ True) (f' := (24, [some (vR 1), some (vI (-3))], [vI (-3)], LAY (u (shA A) 87 (wr (A 87) 3 ((rd (A 87) 3) + 1))) (shF F), 0, 0)) hc93 10 rfl ⟨⟨by omega, by omega⟩, ⟨by omega, by omega⟩, ⟨by omega, by omega⟩, ⟨by omega, by omega⟩, trivial⟩ ?_
      refine R_reti hc93 rfl rfl ?_
      refine R_s (f' := (17, [some (vR 1), some (vI t), some (vI f), some (vI n), some (vI j), none, none], [vI (-3)], LAY (u (shA A) 87 (wr (A 87) 3 ((rd (A 87) 3) + 1))) (shF F), 0, 0)) hc83 0 rfl trivial ?_
      refine R_reti hc83 rfl rfl ⟨⟨_, rfl⟩, ⟨_, _, rfl, rfl⟩, ?_⟩
      refine R_s (P := True) (f' := (2, [some (vR 88), some (vI t), some (vI f), some (vI n), some (vI j), none], [vI t, vR 88], LAY (u (shA A) 87 (wr (A 87) 3 ((rd (A 87) 3) + 1))) (shF F), 0, 0)) hc158 2 rfl trivial ?_
      refine R_cv hc158 rfl rfl ?_ (fun r G h => h)
      refine R_s (P := inI ((F 4) - 1) ∧ True) (f' := (8, [some (vR 88), some (vI t)], [vI ((F 4) - 1), vI 0, vI t], LAY (u (shA A) 87 (wr (A 87) 3 ((rd (A 87) 3) + 1))) (shF F), 0, 0)) hc107 6 rfl ⟨⟨by omega, by omega⟩, trivial⟩ ?_
      refine R_cs hc107 rfl rfl ?_ (fun r G h => h)
      refine R_s (P := True) (f' := (2, [some (vI t), some (vI 0), some (vI ((F 4) - 1))], [vI 0, vI t], LAY (u (shA A) 87 (wr (A 87) 3 ((rd (A 87) 3) + 1))) (shF F), 0, 0)) hc104 2 rfl trivial ?_
      refine R_ic (t := 14) hc104 rfl rfl (fun (z : t < 0) => absurd z (by omega)) (fun (_ : ¬ (t < 0)) => ?_)
      refine R_s (P := True) (f' := (7, [some (vI t), some (vI 0), some (vI ((F 4) - 1))], [vI ((F 4) - 1), vI t], LAY (u (shA A) 87 (wr (A 87) 3 ((rd (A 87) 3) + 1))) (shF F), 0, 0)) hc104 2 rfl trivial ?_
      refine R_ic (t := 14) hc104 rfl rfl (fun (_ : (F 4) - 1 < t) => ?_) (fun (z : ¬ ((F 4) - 1 < t)) => absurd (show (F 4) - 1 < t by omega) z)
      refine R_s (P := True) (f' := (15, [some (vI t), some (vI 0), some (vI ((F 4) - 1))], [vI 0], LAY (u (shA A) 87 (wr (A 87) 3 ((rd (A 87) 3) + 1))) (shF F), 0, 0)) hc104 1 rfl trivial ?_
      refine R_retz hc104 rfl rfl (Or.inl rfl) ?_
      refine R_s (f' := (11, [some (vR 88), some (vI t)], [vI 0], LAY (u (shA A) 87 (wr (A 87) 3 ((rd (A 87) 3) + 1))) (shF F), 0, 0)) hc107 0 rfl trivial ?_
      refine R_retz hc107 rfl rfl (Or.inl rfl) ?_
      refine R_s (f' := (5, [some (vR 88), some (vI t), some (vI f), some (vI n), some (vI j), none], [vI 0], LAY (u (shA A) 87 (wr (A 87) 3 ((rd (A 87) 3) + 1))) (shF F), 0, 0)) hc158 0 rfl trivial ?_
      refine R_if (t := 15) hc158 rfl rfl (fun (z : ¬ 0 = 0) => absurd z (by decide)) (fun (_ : ¬ (¬ 0 = 0)) => ?_)
      refine R_s (P := True) (f' := (11, [some (vR 88), some (vI t), some (vI f), some (vI n), some (vI j), none], [vI (-3), vR 88], LAY (u (shA A) 87 (wr (A 87) 3 ((rd (A 87) 3) + 1))) (shF F), 0, 0)) hc158 2 rfl trivial ?_
      refine R_cv hc158 rfl rfl ?_ (fun r G h => h)
      refine R_s (P := inI 3 ∧ (0 ≤ 3 ∧ 3 < ((A 87).length : Int)) ∧ inI ((rd (A 87) 3) + 1) ∧ (0 ≤ 3 ∧ 3 < ((A 87).length : Int)) ∧ True) (f' := (12, [some (vR 88), some (vI (-3))], [vI (-3)], LAY (u (u (shA A) 87 (wr (A 87) 3 ((rd (A 87) 3) + 1))) 89 (wr (A 87) 3 ((rd (A 87) 3) + 1))) (shF F), 0, 0)) hc105 10 rfl ⟨⟨by omega, by omega⟩, ⟨by omega, by omega⟩, ⟨by omega, by omega⟩, ⟨by omega, by omega⟩, trivial⟩ ?_
      refine R_reti hc105 rfl rfl ?_
      refine R_s (f' := (14, [some (vR 88), some (vI t), some (vI f), some (vI n), some (vI j), none], [vI (-3)], LAY (u (u (shA A) 87 (wr (A 87) 3 ((rd (A 87) 3) + 1))) 89 (wr (A 87) 3 ((rd (A 87) 3) + 1))) (shF F), 0, 0)) hc158 0 rfl trivial ?_
      refine R_reti hc158 rfl rfl ?_
      first
        | (exfalso; omega; done)
        | exact ⟨rfl, (u A 87 (wr (A 87) 3 ((rd (A 87) 3) + 1))), F, rfl, rfl, REL_ref hR0 (by decide) (by decide)⟩
    · refine R_s (P := True) (f' := (17, [some (vR 12), some (vI t)], [vI 1], LAY (shA A) (shF F), 0, 0)) hc52 2 rfl trivial ?_
      refine R_retz hc52 rfl rfl (Or.inr rfl) ?_
      refine R_s (f' := (8, [some (vR 1), some (vI t), some (vI f), some (vI n), some (vI j), none, none], [vI 1], LAY (shA A) (shF F), 0, 0)) hc83 0 rfl trivial ?_
      refine R_if (t := 18) hc83 rfl rfl (fun (_ : ¬ 1 = 0) => ?_) (fun (z : ¬ (¬ 1 = 0)) => absurd (by decide) z)
      refine R_s (P := True) (f' := (23, [some (vR 1), some (vI t), some (vI f), some (vI n), some (vI j), none, none], [vI (F 2), vI f], LAY (shA A) (shF F), 0, 0)) hc83 3 rfl trivial ?_
      refine R_ic (t := 44) hc83 rfl rfl (fun (c4 : f < F 2) => ?_) (fun (c4 : ¬ (f < F 2)) => ?_)
      · refine R_s (P := True) (f' := (47, [some (vR 1), some (vI t), some (vI f), some (vI n), some (vI j), none, none], [vI (-7), vR 1], LAY (shA A) (shF F), 0, 0)) hc83 2 rfl trivial ?_
        refine R_cv hc83 rfl rfl ?_ (fun r G h => h)
        refine R_s (P := True) (f' := (3, [some (vR 1), some (vI (-7))], [vI (-2), vI (-7)], LAY (shA A) (shF F), 0, 0)) hc93 2 rfl trivial ?_
        refine R_ic (t := 23) hc93 rfl rfl (fun (z : (-2) < (-7)) => absurd z (by decide)) (fun (_ : ¬ ((-2) < (-7))) => ?_)
        refine R_s (P := True) (f' := (9, [some (vR 1), some (vI (-7))], [vI (-8), vI (-7)], LAY (shA A) (shF F), 0, 0)) hc93 2 rfl trivial ?_
        refine R_ic (t := 23) hc93 rfl rfl (fun (z : (-7) < (-8)) => absurd z (by decide)) (fun (_ : ¬ ((-7) < (-8))) => ?_)
        refine R_s (P := inI 7 ∧ (0 ≤ 7 ∧ 7 < ((A 87).length : Int)) ∧ inI ((rd (A 87) 7) + 1) ∧ (0 ≤ 7 ∧ 7 < ((A 87).length : Int)) ∧ True) (f' := (24, [some (vR 1), some (vI (-7))], [vI (-7)], LAY (u (shA A) 87 (wr (A 87) 7 ((rd (A 87) 7) + 1))) (shF F), 0, 0)) hc93 10 rfl ⟨⟨by omega, by omega⟩, ⟨by omega, by omega⟩, ⟨by omega, by omega⟩, ⟨by omega, by omega⟩, trivial⟩ ?_
        refine R_reti hc93 rfl rfl ?_
        refine R_s (f' := (50, [some (vR 1), some (vI t), some (vI f), some (vI n), some (vI j), none, none], [vI (-7)], LAY (u (shA A) 87 (wr (A 87) 7 ((rd (A 87) 7) + 1))) (shF F), 0, 0)) hc83 0 rfl trivial ?_
        refine R_reti hc83 rfl rfl ⟨⟨_, rfl⟩, ⟨_, _, rfl, rfl⟩, ?_⟩
        refine R_s (P := True) (f' := (2, [some (vR 88), some (vI t), some (vI f), some (vI n), some (vI j), none], [vI t, vR 88], LAY (u (shA A) 87 (wr (A 87) 7 ((rd (A 87) 7) + 1))) (shF F), 0, 0)) hc158 2 rfl trivial ?_
        refine R_cv hc158 rfl rfl ?_ (fun r G h => h)
        refine R_s (P := inI ((F 4) - 1) ∧ True) (f' := (8, [some (vR 88), some (vI t)], [vI ((F 4) - 1), vI 0, vI t], LAY (u (shA A) 87 (wr (A 87) 7 ((rd (A 87) 7) + 1))) (shF F), 0, 0)) hc107 6 rfl ⟨⟨by omega, by omega⟩, trivial⟩ ?_
        refine R_cs hc107 rfl rfl ?_ (fun r G h => h)
        refine R_s (P := True) (f' := (2, [some (vI t), some (vI 0), some (vI ((F 4) - 1))], [vI 0, vI t], LAY (u (shA A) 87 (wr (A 87) 7 ((rd (A 87) 7) + 1))) (shF F), 0, 0)) hc104 2 rfl trivial ?_
        refine R_ic (t := 14) hc104 rfl rfl (fun (z : t < 0) => absurd z (by omega)) (fun (_ : ¬ (t < 0)) => ?_)
        refine R_s (P := True) (f' := (7, [some (vI t), some (vI 0), some (vI ((F 4) - 1))], [vI ((F 4) - 1), vI t], LAY (u (shA A) 87 (wr (A 87) 7 ((rd (A 87) 7) + 1))) (shF F), 0, 0)) hc104 2 rfl trivial ?_
        refine R_ic (t := 14) hc104 rfl rfl (fun (z : (F 4) - 1 < t) => absurd z (by omega)) (fun (_ : ¬ ((F 4) - 1 < t)) => ?_)
        refine R_s (P := True) (f' := (15, [some (vI t), some (vI 0), some (vI ((F 4) - 1))], [vI 1], LAY (u (shA A) 87 (wr (A 87) 7 ((rd (A 87) 7) + 1))) (shF F), 0, 0)) hc104 2 rfl trivial ?_
        refine R_retz hc104 rfl rfl (Or.inr rfl) ?_
        refine R_s (f' := (11, [some (vR 88), some (vI t)], [vI 1], LAY (u (shA A) 87 (wr (A 87) 7 ((rd (A 87) 7) + 1))) (shF F), 0, 0)) hc107 0 rfl trivial ?_
        refine R_retz hc107 rfl rfl (Or.inr rfl) ?_
        refine R_s (f' := (5, [some (vR 88), some (vI t), some (vI f), some (vI n), some (vI j), none], [vI 1], LAY (u (shA A) 87 (wr (A 87) 7 ((rd (A 87) 7) + 1))) (shF F), 0, 0)) hc158 0 rfl trivial ?_
        refine R_if (t := 15) hc158 rfl rfl (fun (_ : ¬ 1 = 0) => ?_) (fun (z : ¬ (¬ 1 = 0)) => absurd (by decide) z)
        refine R_s (P := True) (f' := (23, [some (vR 88), some (vI t), some (vI f), some (vI n), some (vI j), none], [vI 700, vI (F 2), vI f], LAY (u (shA A) 87 (wr (A 87) 7 ((rd (A 87) 7) + 1))) (shF F), 0, 0)) hc158 4 rfl trivial ?_
        refine R_cs hc158 rfl rfl ?_ (fun r G h => h)
        refine R_s (P := True) (f' := (2, [some (vI f), some (vI (F 2)), some (vI 700)], [vI (F 2), vI f], LAY (u (shA A) 87 (wr (A 87) 7 ((rd (A 87) 7) + 1))) (shF F), 0, 0)) hc104 2 rfl trivial ?_
        refine R_ic (t := 14) hc104 rfl rfl (fun (_ : f < F 2) => ?_) (fun (z : ¬ (f < F 2)) => absurd (show f < F 2 by omega) z)
        refine R_s (P := True) (f' := (15, [some (vI f), some (vI (F 2)), some (vI 700)], [vI 0], LAY (u (shA A) 87 (wr (A 87) 7 ((rd (A 87) 7) + 1))) (shF F), 0, 0)) hc104 1 rfl trivial ?_
        refine R_retz hc104 rfl rfl (Or.inl rfl) ?_
        refine R_s (f' := (26, [some (vR 88), some (vI t), some (vI f), some (vI n), some (vI j), none], [vI 0], LAY (u (shA A) 87 (wr (A 87) 7 ((rd (A 87) 7) + 1))) (shF F), 0, 0)) hc158 0 rfl trivial ?_
        refine R_if (t := 39) hc158 rfl rfl (fun (_ : 0 = 0) => ?_) (fun (z : ¬ (0 = 0)) => absurd (by decide) z)
        refine R_s (P := True) (f' := (42, [some (vR 88), some (vI t), some (vI f), some (vI n), some (vI j), none], [vI (-7), vR 88], LAY (u (shA A) 87 (wr (A 87) 7 ((rd (A 87) 7) + 1))) (shF F), 0, 0)) hc158 2 rfl trivial ?_
        refine R_cv hc158 rfl rfl ?_ (fun r G h => h)
        refine R_s (P := inI 7 ∧ (0 ≤ 7 ∧ 7 < ((A 87).length : Int)) ∧ inI ((rd (A 87) 7) + 1) ∧ (0 ≤ 7 ∧ 7 < ((A 87).length : Int)) ∧ True) (f' := (12, [some (vR 88), some (vI (-7))], [vI (-7)], LAY (u (u (shA A) 87 (wr (A 87) 7 ((rd (A 87) 7) + 1))) 89 (wr (A 87) 7 ((rd (A 87) 7) + 1))) (shF F), 0, 0)) hc105 10 rfl ⟨⟨by omega, by omega⟩, ⟨by omega, by omega⟩, ⟨by omega, by omega⟩, ⟨by omega, by omega⟩, trivial⟩ ?_
        refine R_reti hc105 rfl rfl ?_
        refine R_s (f' := (45, [some (vR 88), some (vI t), some (vI f), some (vI n), some (vI j), none], [vI (-7)], LAY (u (u (shA A) 87 (wr (A 87) 7 ((rd (A 87) 7) + 1))) 89 (wr (A 87) 7 ((rd (A 87) 7) + 1))) (shF F), 0, 0)) hc158 0 rfl trivial ?_
        refine R_reti hc158 rfl rfl ?_
        first
          | (exfalso; omega; done)
          | exact ⟨rfl, (u A 87 (wr (A 87) 7 ((rd (A 87) 7) + 1))), F, rfl, rfl, REL_ref hR0 (by decide) (by decide)⟩
      · refine R_s (P := True) (f' := (30, [some (vR 1), some (vI t), some (vI f), some (vI n), some (vI j), none, none], [vI 700, vI f], LAY (shA A) (shF F), 0, 0)) hc83 2 rfl trivial ?_
        refine R_ic (t := 44) hc83 rfl rfl (fun (c7 : 700 < f) => ?_) (fun (c7 : ¬ (700 < f)) => ?_)
        · refine R_s (P := True) (f' := (47, [some (vR 1), some (vI t), some (vI f), some (vI n), some (vI j), none, none], [vI (-7), vR 1], LAY (shA A) (shF F), 0, 0)) hc83 2 rfl trivial ?_
          refine R_cv hc83 rfl rfl ?_ (fun r G h => h)
          refine R_s (P := True) (f' := (3, [some (vR 1), some (vI (-7))], [vI (-2), vI (-7)], LAY (shA A) (shF F), 0, 0)) hc93 2 rfl trivial ?_
          refine R_ic (t := 23) hc93 rfl rfl (fun (z : (-2) < (-7)) => absurd z (by decide)) (fun (_ : ¬ ((-2) < (-7))) => ?_)
          refine R_s (P := True) (f' := (9, [some (vR 1), some (vI (-7))], [vI (-8), vI (-7)], LAY (shA A) (shF F), 0, 0)) hc93 2 rfl trivial ?_
          refine R_ic (t := 23) hc93 rfl rfl (fun (z : (-7) < (-8)) => absurd z (by decide)) (fun (_ : ¬ ((-7) < (-8))) => ?_)
          refine R_s (P := inI 7 ∧ (0 ≤ 7 ∧ 7 < ((A 87).length : Int)) ∧ inI ((rd (A 87) 7) + 1) ∧ (0 ≤ 7 ∧ 7 < ((A 87).length : Int)) ∧ True) (f' := (24, [some (vR 1), some (vI (-7))], [vI (-7)], LAY (u (shA A) 87 (wr (A 87) 7 ((rd (A 87) 7) + 1))) (shF F), 0, 0)) hc93 10 rfl ⟨⟨by omega, by omega⟩, ⟨by omega, by omega⟩, ⟨by omega, by omega⟩, ⟨by omega, by omega⟩, trivial⟩ ?_
          refine R_reti hc93 rfl rfl ?_
          refine R_s (f' := (50, [some (vR 1), some (vI t), some (vI f), some (vI n), some (vI j), none, none], [vI (-7)], LAY (u (shA A) 87 (wr (A 87) 7 ((rd (A 87) 7) + 1))) (shF F), 0, 0)) hc83 0 rfl trivial ?_
          refine R_reti hc83 rfl rfl ⟨⟨_, rfl⟩, ⟨_, _, rfl, rfl⟩, ?_⟩
          refine R_s (P := True) (f' := (2, [some (vR 88), some (vI t), some (vI f), some (vI n), some (vI j), none], [vI t, vR 88], LAY (u (shA A) 87 (wr (A 87) 7 ((rd (A 87) 7) + 1))) (shF F), 0, 0)) hc158 2 rfl trivial ?_
          refine R_cv hc158 rfl rfl ?_ (fun r G h => h)
          refine R_s (P := inI ((F 4) - 1) ∧ True) (f' := (8, [some (vR 88), some (vI t)], [vI ((F 4) - 1), vI 0, vI t], LAY (u (shA A) 87 (wr (A 87) 7 ((rd (A 87) 7) + 1))) (shF F), 0, 0)) hc107 6 rfl ⟨⟨by omega, by omega⟩, trivial⟩ ?_
          refine R_cs hc107 rfl rfl ?_ (fun r G h => h)
          refine R_s (P := True) (f' := (2, [some (vI t), some (vI 0), some (vI ((F 4) - 1))], [vI 0, vI t], LAY (u (shA A) 87 (wr (A 87) 7 ((rd (A 87) 7) + 1))) (shF F), 0, 0)) hc104 2 rfl trivial ?_
          refine R_ic (t := 14) hc104 rfl rfl (fun (z : t < 0) => absurd z (by omega)) (fun (_ : ¬ (t < 0)) => ?_)
          refine R_s (P := True) (f' := (7, [some (vI t), some (vI 0), some (vI ((F 4) - 1))], [vI ((F 4) - 1), vI t], LAY (u (shA A) 87 (wr (A 87) 7 ((rd (A 87) 7) + 1))) (shF F), 0, 0)) hc104 2 rfl trivial ?_
          refine R_ic (t := 14) hc104 rfl rfl (fun (z : (F 4) - 1 < t) => absurd z (by omega)) (fun (_ : ¬ ((F 4) - 1 < t)) => ?_)
          refine R_s (P := True) (f' := (15, [some (vI t), some (vI 0), some (vI ((F 4) - 1))], [vI 1], LAY (u (shA A) 87 (wr (A 87) 7 ((rd (A 87) 7) + 1))) (shF F), 0, 0)) hc104 2 rfl trivial ?_
          refine R_retz hc104 rfl rfl (Or.inr rfl) ?_
          refine R_s (f' := (11, [some (vR 88), some (vI t)], [vI 1], LAY (u (shA A) 87 (wr (A 87) 7 ((rd (A 87) 7) + 1))) (shF F), 0, 0)) hc107 0 rfl trivial ?_
          refine R_retz hc107 rfl rfl (Or.inr rfl) ?_
          refine R_s (f' := (5, [some (vR 88), some (vI t), some (vI f), some (vI n), some (vI j), none], [vI 1], LAY (u (shA A) 87 (wr (A 87) 7 ((rd (A 87) 7) + 1))) (shF F), 0, 0)) hc158 0 rfl trivial ?_
          refine R_if (t := 15) hc158 rfl rfl (fun (_ : ¬ 1 = 0) => ?_) (fun (z : ¬ (¬ 1 = 0)) => absurd (by decide) z)
          refine R_s (P := True) (f' := (23, [some (vR 88), some (vI t), some (vI f), some (vI n), some (vI j), none], [vI 700, vI (F 2), vI f], LAY (u (shA A) 87 (wr (A 87) 7 ((rd (A 87) 7) + 1))) (shF F), 0, 0)) hc158 4 rfl trivial ?_
          refine R_cs hc158 rfl rfl ?_ (fun r G h => h)
          refine R_s (P := True) (f' := (2, [some (vI f), some (vI (F 2)), some (vI 700)], [vI (F 2), vI f], LAY (u (shA A) 87 (wr (A 87) 7 ((rd (A 87) 7) + 1))) (shF F), 0, 0)) hc104 2 rfl trivial ?_
          refine R_ic (t := 14) hc104 rfl rfl (fun (z : f < F 2) => absurd z (by omega)) (fun (_ : ¬ (f < F 2)) => ?_)
          refine R_s (P := True) (f' := (7, [some (vI f), some (vI (F 2)), some (vI 700)], [vI 700, vI f], LAY (u (shA A) 87 (wr (A 87) 7 ((rd (A 87) 7) + 1))) (shF F), 0, 0)) hc104 2 rfl trivial ?_
          refine R_ic (t := 14) hc104 rfl rfl (fun (_ : 700 < f) => ?_) (fun (z : ¬ (700 < f)) => absurd (show 700 < f by omega) z)
          refine R_s (P := True) (f' := (15, [some (vI f), some (vI (F 2)), some (vI 700)], [vI 0], LAY (u (shA A) 87 (wr (A 87) 7 ((rd (A 87) 7) + 1))) (shF F), 0, 0)) hc104 1 rfl trivial ?_
          refine R_retz hc104 rfl rfl (Or.inl rfl) ?_
          refine R_s (f' := (26, [some (vR 88), some (vI t), some (vI f), some (vI n), some (vI j), none], [vI 0], LAY (u (shA A) 87 (wr (A 87) 7 ((rd (A 87) 7) + 1))) (shF F), 0, 0)) hc158 0 rfl trivial ?_
          refine R_if (t := 39) hc158 rfl rfl (fun (_ : 0 = 0) => ?_) (fun (z : ¬ (0 = 0)) => absurd (by decide) z)
          refine R_s (P := True) (f' := (42, [some (vR 88), some (vI t), some (vI f), some (vI n), some (vI j), none], [vI (-7), vR 88], LAY (u (shA A) 87 (wr (A 87) 7 ((rd (A 87) 7) + 1))) (shF F), 0, 0)) hc158 2 rfl trivial ?_
          refine R_cv hc158 rfl rfl ?_ (fun r G h => h)
          refine R_s (P := inI 7 ∧ (0 ≤ 7 ∧ 7 < ((A 87).length : Int)) ∧ inI ((rd (A 87) 7) + 1) ∧ (0 ≤ 7 ∧ 7 < ((A 87).length : Int)) ∧ True) (f' := (12, [some (vR 88), some (vI (-7))], [vI (-7)], LAY (u (u (shA A) 87 (wr (A 87) 7 ((rd (A 87) 7) + 1))) 89 (wr (A 87) 7 ((rd (A 87) 7) + 1))) (shF F), 0, 0)) hc105 10 rfl ⟨⟨by omega, by omega⟩, ⟨by omega, by omega⟩, ⟨by omega, by omega⟩, ⟨by omega, by omega⟩, trivial⟩ ?_
          refine R_reti hc105 rfl rfl ?_
          refine R_s (f' := (45, [some (vR 88), some (vI t), some (vI f), some (vI n), some (vI j), none], [vI (-7)], LAY (u (u (shA A) 87 (wr (A 87) 7 ((rd (A 87) 7) + 1))) 89 (wr (A 87) 7 ((rd (A 87) 7) + 1))) (shF F), 0, 0)) hc158 0 rfl trivial ?_
          refine R_reti hc158 rfl rfl ?_
          first
            | (exfalso; omega; done)
            | exact ⟨rfl, (u A 87 (wr (A 87) 7 ((rd (A 87) 7) + 1))), F, rfl, rfl, REL_ref hR0 (by decide) (by decide)⟩
        · refine R_s (P := True) (f' := (35, [some (vR 1), some (vI t), some (vI f), some (vI n), some (vI j), none, none], [vI 1, vI n], LAY (shA A) (shF F), 0, 0)) hc83 2 rfl trivial ?_
          refine R_ic (t := 44) hc83 rfl rfl (fun (c10 : n < 1) => ?_) (fun (c10 : ¬ (n < 1)) => ?_)
          · refine R_s (P := True) (f' := (47, [some (vR 1), some (vI t), some (vI f), some (vI n), some (vI j), none, none], [vI (-7), vR 1], LAY (shA A) (shF F), 0, 0)) hc83 2 rfl trivial ?_
            refine R_cv hc83 rfl rfl ?_ (fun r G h => h)
            refine R_s (P := True) (f' := (3, [some (vR 1), some (vI (-7))], [vI (-2), vI (-7)], LAY (shA A) (shF F), 0, 0)) hc93 2 rfl trivial ?_
            refine R_ic (t := 23) hc93 rfl rfl (fun (z : (-2) < (-7)) => absurd z (by decide)) (fun (_ : ¬ ((-2) < (-7))) => ?_)
            refine R_s (P := True) (f' := (9, [some (vR 1), some (vI (-7))], [vI (-8), vI (-7)], LAY (shA A) (shF F), 0, 0)) hc93 2 rfl trivial ?_
            refine R_ic (t := 23) hc93 rfl rfl (fun (z : (-7) < (-8)) => absurd z (by decide)) (fun (_ : ¬ ((-7) < (-8))) => ?_)
            refine R_s (P := inI 7 ∧ (0 ≤ 7 ∧ 7 < ((A 87).length : Int)) ∧ inI ((rd (A 87) 7) + 1) ∧ (0 ≤ 7 ∧ 7 < ((A 87).length : Int)) ∧ True) (f' := (24, [some (vR 1), some (vI (-7))], [vI (-7)], LAY (u (shA A) 87 (wr (A 87) 7 ((rd (A 87) 7) + 1))) (shF F), 0, 0)) hc93 10 rfl ⟨⟨by omega, by omega⟩, ⟨by omega, by omega⟩, ⟨by omega, by omega⟩, ⟨by omega, by omega⟩, trivial⟩ ?_
            refine R_reti hc93 rfl rfl ?_
            refine R_s (f' := (50, [some (vR 1), some (vI t), some (vI f), some (vI n), some (vI j), none, none], [vI (-7)], LAY (u (shA A) 87 (wr (A 87) 7 ((rd (A 87) 7) + 1))) (shF F), 0, 0)) hc83 0 rfl trivial ?_
            refine R_reti hc83 rfl rfl ⟨⟨_, rfl⟩, ⟨_, _, rfl, rfl⟩, ?_⟩
            refine R_s (P := True) (f' := (2, [some (vR 88), some (vI t), some (vI f), some (vI n), some (vI j), none], [vI t, vR 88], LAY (u (shA A) 87 (wr (A 87) 7 ((rd (A 87) 7) + 1))) (shF F), 0, 0)) hc158 2 rfl trivial ?_
            refine R_cv hc158 rfl rfl ?_ (fun r G h => h)
            refine R_s (P := inI ((F 4) - 1) ∧ True) (f' := (8, [some (vR 88), some (vI t)], [vI ((F 4) - 1), vI 0, vI t], LAY (u (shA A) 87 (wr (A 87) 7 ((rd (A 87) 7) + 1))) (shF F), 0, 0)) hc107 6 rfl ⟨⟨by omega, by omega⟩, trivial⟩ ?_
            refine R_cs hc107 rfl rfl ?_ (fun r G h => h)
            refine R_s (P := True) (f' := (2, [some (vI t), some (vI 0), some (vI ((F 4) - 1))], [vI 0, vI t], LAY (u (shA A) 87 (wr (A 87) 7 ((rd (A 87) 7) + 1))) (shF F), 0, 0)) hc104 2 rfl trivial ?_
            refine R_ic (t := 14) hc104 rfl rfl (fun (z : t < 0) => absurd z (by omega)) (fun (_ : ¬ (t < 0)) => ?_)
            refine R_s (P := True) (f' := (7, [some (vI t), some (vI 0), some (vI ((F 4) - 1))], [vI ((F 4) - 1), vI t], LAY (u (shA A) 87 (wr (A 87) 7 ((rd (A 87) 7) + 1))) (shF F), 0, 0)) hc104 2 rfl trivial ?_
            refine R_ic (t := 14) hc104 rfl rfl (fun (z : (F 4) - 1 < t) => absurd z (by omega)) (fun (_ : ¬ ((F 4) - 1 < t)) => ?_)
            refine R_s (P := True) (f' := (15, [some (vI t), some (vI 0), some (vI ((F 4) - 1))], [vI 1], LAY (u (shA A) 87 (wr (A 87) 7 ((rd (A 87) 7) + 1))) (shF F), 0, 0)) hc104 2 rfl trivial ?_
            refine R_retz hc104 rfl rfl (Or.inr rfl) ?_
            refine R_s (f' := (11, [some (vR 88), some (vI t)], [vI 1], LAY (u (shA A) 87 (wr (A 87) 7 ((rd (A 87) 7) + 1))) (shF F), 0, 0)) hc107 0 rfl trivial ?_
            refine R_retz hc107 rfl rfl (Or.inr rfl) ?_
            refine R_s (f' := (5, [some (vR 88), some (vI t), some (vI f), some (vI n), some (vI j), none], [vI 1], LAY (u (shA A) 87 (wr (A 87) 7 ((rd (A 87) 7) + 1))) (shF F), 0, 0)) hc158 0 rfl trivial ?_
            refine R_if (t := 15) hc158 rfl rfl (fun (_ : ¬ 1 = 0) => ?_) (fun (z : ¬ (¬ 1 = 0)) => absurd (by decide) z)
            refine R_s (P := True) (f' := (23, [some (vR 88), some (vI t), some (vI f), some (vI n), some (vI j), none], [vI 700, vI (F 2), vI f], LAY (u (shA A) 87 (wr (A 87) 7 ((rd (A 87) 7) + 1))) (shF F), 0, 0)) hc158 4 rfl trivial ?_
            refine R_cs hc158 rfl rfl ?_ (fun r G h => h)
            refine R_s (P := True) (f' := (2, [some (vI f), some (vI (F 2)), some (vI 700)], [vI (F 2), vI f], LAY (u (shA A) 87 (wr (A 87) 7 ((rd (A 87) 7) + 1))) (shF F), 0, 0)) hc104 2 rfl trivial ?_
            refine R_ic (t := 14) hc104 rfl rfl (fun (z : f < F 2) => absurd z (by omega)) (fun (_ : ¬ (f < F 2)) => ?_)
            refine R_s (P := True) (f' := (7, [some (vI f), some (vI (F 2)), some (vI 700)], [vI 700, vI f], LAY (u (shA A) 87 (wr (A 87) 7 ((rd (A 87) 7) + 1))) (shF F), 0, 0)) hc104 2 rfl trivial ?_
            refine R_ic (t := 14) hc104 rfl rfl (fun (z : 700 < f) => absurd z (by omega)) (fun (_ : ¬ (700 < f)) => ?_)
            refine R_s (P := True) (f' := (15, [some (vI f), some (vI (F 2)), some (vI 700)], [vI 1], LAY (u (shA A) 87 (wr (A 87) 7 ((rd (A 87) 7) + 1))) (shF F), 0, 0)) hc104 2 rfl trivial ?_
            refine R_retz hc104 rfl rfl (Or.inr rfl) ?_
            refine R_s (f' := (26, [some (vR 88), some (vI t), some (vI f), some (vI n), some (vI j), none], [vI 1], LAY (u (shA A) 87 (wr (A 87) 7 ((rd (A 87) 7) + 1))) (shF F), 0, 0)) hc158 0 rfl trivial ?_
            refine R_if (t := 39) hc158 rfl rfl (fun (z : 1 = 0) => absurd z (by decide)) (fun (_ : ¬ (1 = 0)) => ?_)
            refine R_s (P := True) (f' := (33, [some (vR 88), some (vI t), some (vI f), some (vI n), some (vI j), none], [vI 99, vI 1, vI n], LAY (u (shA A) 87 (wr (A 87) 7 ((rd (A 87) 7) + 1))) (shF F), 0, 0)) hc158 3 rfl trivial ?_
            refine R_cs hc158 rfl rfl ?_ (fun r G h => h)
            refine R_s (P := True) (f' := (2, [some (vI n), some (vI 1), some (vI 99)], [vI 1, vI n], LAY (u (shA A) 87 (wr (A 87) 7 ((rd (A 87) 7) + 1))) (shF F), 0, 0)) hc104 2 rfl trivial ?_
            refine R_ic (t := 14) hc104 rfl rfl (fun (_ : n < 1) => ?_) (fun (z : ¬ (n < 1)) => absurd (show n < 1 by omega) z)
            refine R_s (P := True) (f' := (15, [some (vI n), some (vI 1), some (vI 99)], [vI 0], LAY (u (shA A) 87 (wr (A 87) 7 ((rd (A 87) 7) + 1))) (shF F), 0, 0)) hc104 1 rfl trivial ?_
            refine R_retz hc104 rfl rfl (Or.inl rfl) ?_
            refine R_s (f' := (36, [some (vR 88), some (vI t), some (vI f), some (vI n), some (vI j), none], [vI 0], LAY (u (shA A) 87 (wr (A 87) 7 ((rd (A 87) 7) + 1))) (shF F), 0, 0)) hc158 0 rfl trivial ?_
            refine R_if (t := 46) hc158 rfl rfl (fun (z : ¬ 0 = 0) => absurd z (by decide)) (fun (_ : ¬ (¬ 0 = 0)) => ?_)
            refine R_s (P := True) (f' := (42, [some (vR 88), some (vI t), some (vI f), some (vI n), some (vI j), none], [vI (-7), vR 88], LAY (u (shA A) 87 (wr (A 87) 7 ((rd (A 87) 7) + 1))) (shF F), 0, 0)) hc158 2 rfl trivial ?_
            refine R_cv hc158 rfl rfl ?_ (fun r G h => h)
            refine R_s (P := inI 7 ∧ (0 ≤ 7 ∧ 7 < ((A 87).length : Int)) ∧ inI ((rd (A 87) 7) + 1) ∧ (0 ≤ 7 ∧ 7 < ((A 87).length : Int)) ∧ True) (f' := (12, [some (vR 88), some (vI (-7))], [vI (-7)], LAY (u (u (shA A) 87 (wr (A 87) 7 ((rd (A 87) 7) + 1))) 89 (wr (A 87) 7 ((rd (A 87) 7) + 1))) (shF F), 0, 0)) hc105 10 rfl ⟨⟨by omega, by omega⟩, ⟨by omega, by omega⟩, ⟨by omega, by omega⟩, ⟨by omega, by omega⟩, trivial⟩ ?_
            refine R_reti hc105 rfl rfl ?_
            refine R_s (f' := (45, [some (vR 88), some (vI t), some (vI f), some (vI n), some (vI j), none], [vI (-7)], LAY (u (u (shA A) 87 (wr (A 87) 7 ((rd (A 87) 7) + 1))) 89 (wr (A 87) 7 ((rd (A 87) 7) + 1))) (shF F), 0, 0)) hc158 0 rfl trivial ?_
            refine R_reti hc158 rfl rfl ?_
            first
              | (exfalso; omega; done)
              | exact ⟨rfl, (u A 87 (wr (A 87) 7 ((rd (A 87) 7) + 1))), F, rfl, rfl, REL_ref hR0 (by decide) (by decide)⟩
          · refine R_s (P := True) (f' := (41, [some (vR 1), some (vI t), some (vI f), some (vI n), some (vI j), none, none], [vI 99, vI n], LAY (shA A) (shF F), 0, 0)) hc83 2 rfl trivial ?_
            refine R_ic (t := 51) hc83 rfl rfl (fun (c13 : n ≤ 99) => ?_) (fun (c13 : ¬ (n ≤ 99)) => ?_)
            · refine R_s (P := True) (f' := (60, [some (vR 1), some (vI t), some (vI f), some (vI n), some (vI j), none, none], [vI 30, vI (F 16)], LAY (shA A) (shF F), 0, 0)) hc83 4 rfl trivial ?_
              refine R_ic (t := 70) hc83 rfl rfl (fun (c14 : F 16 < 30) => ?_) (fun (c14 : ¬ (F 16 < 30)) => ?_)
              · refine R_s (P := True) (f' := (72, [some (vR 1), some (vI t), some (vI f), some (vI n), some (vI j), none, none], [vI j], LAY (shA A) (shF F), 0, 0)) hc83 1 rfl trivial ?_
                refine R_if (t := 86) hc83 rfl rfl (fun (c15 : ¬ j = 0) => ?_) (fun (c15 : ¬ (¬ j = 0)) => ?_)
                · refine R_s (P := True) (f' := (95, [some (vR 1), some (vI t), some (vI f), some (vI n), some (vI j), some (vI 1), none], [vI 1], LAY (shA A) (shF F), 0, 0)) hc83 4 rfl trivial ?_
                  refine R_if (t := 129) hc83 rfl rfl (fun (z : 1 = 0) => absurd z (by decide)) (fun (_ : ¬ (1 = 0)) => ?_)
                  refine R_s (P := (0 ≤ t ∧ t < ((A 15).length : Int)) ∧ True) (f' := (107, [some (vR 1), some (vI t), some (vI f), some (vI n), some (vI j), some (vI 1), none], [vI (rd (A 15) t)], LAY (shA A) (shF F), 0, 0)) hc83 5 rfl ⟨⟨by omega, by omega⟩, trivial⟩ ?_
                  refine R_if (t := 129) hc83 rfl rfl (fun (c17 : ¬ rd (A 15) t = 0) => ?_) (fun (c17 : ¬ (¬ rd (A 15) t = 0)) => ?_)
                  · refine R_s (P := True) (f' := (141, [some (vR 1), some (vI t), some (vI f), some (vI n), some (vI j), some (vI 1), some (vI 0)], [vI 0, vI n, vI f, vI t, vR 79], LAY (shA A) (shF F), 0, 0)) hc83 8 rfl trivial ?_
                    refine R_cv hc83 rfl rfl ?_ (fun r G h => h)
                    refine R_s (P := (0 ≤ F 16 ∧ F 16 < ((A 80).length : Int)) ∧ (0 ≤ F 16 ∧ F 16 < ((A 81).length : Int)) ∧ (0 ≤ F 16 ∧ F 16 < ((A 82).length : Int)) ∧ ((0 ≤ F 16 ∧ F 16 < ((A 83).length : Int)) ∧ (0 = 0 ∨ 0 = 1)) ∧ inI ((F 16) + 1) ∧ True) (f' := (51, [some (vR 79), some (vI t), some (vI f), some (vI n), some (vI 0), some (vI (F 16))], [vI (F 16)], LAY (u (u (u (u (shA A) 80 (wr (A 80) (F 16) t)) 81 (wr (A 81) (F 16) f)) 82 (wr (A 82) (F 16) n)) 83 (wr (A 83) (F 16) 0)) (u (shF F) 16 ((F 16) + 1)), 0, 0)) hc22 30 rfl ⟨⟨by omega, by omega⟩, ⟨by omega, by omega⟩, ⟨by omega, by omega⟩, ⟨⟨by omega, by omega⟩, by omega⟩, ⟨by omega, by omega⟩, trivial⟩ ?_
                    refine R_reti hc22 rfl rfl ?_
                    refine R_s (f' := (144, [some (vR 1), some (vI t), some (vI f), some (vI n), some (vI j), some (vI 1), some (vI 0)], [vI (F 16)], LAY (u (u (u (u (shA A) 80 (wr (A 80) (F 16) t)) 81 (wr (A 81) (F 16) f)) 82 (wr (A 82) (F 16) n)) 83 (wr (A 83) (F 16) 0)) (u (shF F) 16 ((F 16) + 1)), 0, 0)) hc83 0 rfl trivial ?_
                    refine R_reti hc83 rfl rfl ⟨⟨_, rfl⟩, ⟨_, _, rfl, rfl⟩, ?_⟩
                    refine R_s (P := True) (f' := (2, [some (vR 88), some (vI t), some (vI f), some (vI n), some (vI j), none], [vI t, vR 88], LAY (u (u (u (u (shA A) 80 (wr (A 80) (F 16) t)) 81 (wr (A 81) (F 16) f)) 82 (wr (A 82) (F 16) n)) 83 (wr (A 83) (F 16) 0)) (u (shF F) 16 ((F 16) + 1)), 0, 0)) hc158 2 rfl trivial ?_
                    refine R_cv hc158 rfl rfl ?_ (fun r G h => h)
                    refine R_s (P := inI ((F 4) - 1) ∧ True) (f' := (8, [some (vR 88), some (vI t)], [vI ((F 4) - 1), vI 0, vI t], LAY (u (u (u (u (shA A) 80 (wr (A 80) (F 16) t)) 81 (wr (A 81) (F 16) f)) 82 (wr (A 82) (F 16) n)) 83 (wr (A 83) (F 16) 0)) (u (shF F) 16 ((F 16) + 1)), 0, 0)) hc107 6 rfl ⟨⟨by omega, by omega⟩, trivial⟩ ?_
                    refine R_cs hc107 rfl rfl ?_ (fun r G h => h)
                    refine R_s (P := True) (f' := (2, [some (vI t), some (vI 0), some (vI ((F 4) - 1))], [vI 0, vI t], LAY (u (u (u (u (shA A) 80 (wr (A 80) (F 16) t)) 81 (wr (A 81) (F 16) f)) 82 (wr (A 82) (F 16) n)) 83 (wr (A 83) (F 16) 0)) (u (shF F) 16 ((F 16) + 1)), 0, 0)) hc104 2 rfl trivial ?_
                    refine R_ic (t := 14) hc104 rfl rfl (fun (z : t < 0) => absurd z (by omega)) (fun (_ : ¬ (t < 0)) => ?_)
                    refine R_s (P := True) (f' := (7, [some (vI t), some (vI 0), some (vI ((F 4) - 1))], [vI ((F 4) - 1), vI t], LAY (u (u (u (u (shA A) 80 (wr (A 80) (F 16) t)) 81 (wr (A 81) (F 16) f)) 82 (wr (A 82) (F 16) n)) 83 (wr (A 83) (F 16) 0)) (u (shF F) 16 ((F 16) + 1)), 0, 0)) hc104 2 rfl trivial ?_
                    refine R_ic (t := 14) hc104 rfl rfl (fun (z : (F 4) - 1 < t) => absurd z (by omega)) (fun (_ : ¬ ((F 4) - 1 < t)) => ?_)
                    refine R_s (P := True) (f' := (15, [some (vI t), some (vI 0), some (vI ((F 4) - 1))], [vI 1], LAY (u (u (u (u (shA A) 80 (wr (A 80) (F 16) t)) 81 (wr (A 81) (F 16) f)) 82 (wr (A 82) (F 16) n)) 83 (wr (A 83) (F 16) 0)) (u (shF F) 16 ((F 16) + 1)), 0, 0)) hc104 2 rfl trivial ?_
                    refine R_retz hc104 rfl rfl (Or.inr rfl) ?_
                    refine R_s (f' := (11, [some (vR 88), some (vI t)], [vI 1], LAY (u (u (u (u (shA A) 80 (wr (A 80) (F 16) t)) 81 (wr (A 81) (F 16) f)) 82 (wr (A 82) (F 16) n)) 83 (wr (A 83) (F 16) 0)) (u (shF F) 16 ((F 16) + 1)), 0, 0)) hc107 0 rfl trivial ?_
                    refine R_retz hc107 rfl rfl (Or.inr rfl) ?_
                    refine R_s (f' := (5, [some (vR 88), some (vI t), some (vI f), some (vI n), some (vI j), none], [vI 1], LAY (u (u (u (u (shA A) 80 (wr (A 80) (F 16) t)) 81 (wr (A 81) (F 16) f)) 82 (wr (A 82) (F 16) n)) 83 (wr (A 83) (F 16) 0)) (u (shF F) 16 ((F 16) + 1)), 0, 0)) hc158 0 rfl trivial ?_
                    refine R_if (t := 15) hc158 rfl rfl (fun (_ : ¬ 1 = 0) => ?_) (fun (z : ¬ (¬ 1 = 0)) => absurd (by decide) z)
                    refine R_s (P := True) (f' := (23, [some (vR 88), some (vI t), some (vI f), some (vI n), some (vI j), none], [vI 700, vI (F 2), vI f], LAY (u (u (u (u (shA A) 80 (wr (A 80) (F 16) t)) 81 (wr (A 81) (F 16) f)) 82 (wr (A 82) (F 16) n)) 83 (wr (A 83) (F 16) 0)) (u (shF F) 16 ((F 16) + 1)), 0, 0)) hc158 4 rfl trivial ?_
                    refine R_cs hc158 rfl rfl ?_ (fun r G h => h)
                    refine R_s (P := True) (f' := (2, [some (vI f), some (vI (F 2)), some (vI 700)], [vI (F 2), vI f], LAY (u (u (u (u (shA A) 80 (wr (A 80) (F 16) t)) 81 (wr (A 81) (F 16) f)) 82 (wr (A 82) (F 16) n)) 83 (wr (A 83) (F 16) 0)) (u (shF F) 16 ((F 16) + 1)), 0, 0)) hc104 2 rfl trivial ?_
                    refine R_ic (t := 14) hc104 rfl rfl (fun (z : f < F 2) => absurd z (by omega)) (fun (_ : ¬ (f < F 2)) => ?_)
                    refine R_s (P := True) (f' := (7, [some (vI f), some (vI (F 2)), some (vI 700)], [vI 700, vI f], LAY (u (u (u (u (shA A) 80 (wr (A 80) (F 16) t)) 81 (wr (A 81) (F 16) f)) 82 (wr (A 82) (F 16) n)) 83 (wr (A 83) (F 16) 0)) (u (shF F) 16 ((F 16) + 1)), 0, 0)) hc104 2 rfl trivial ?_
                    refine R_ic (t := 14) hc104 rfl rfl (fun (z : 700 < f) => absurd z (by omega)) (fun (_ : ¬ (700 < f)) => ?_)
                    refine R_s (P := True) (f' := (15, [some (vI f), some (vI (F 2)), some (vI 700)], [vI 1], LAY (u (u (u (u (shA A) 80 (wr (A 80) (F 16) t)) 81 (wr (A 81) (F 16) f)) 82 (wr (A 82) (F 16) n)) 83 (wr (A 83) (F 16) 0)) (u (shF F) 16 ((F 16) + 1)), 0, 0)) hc104 2 rfl trivial ?_
                    refine R_retz hc104 rfl rfl (Or.inr rfl) ?_
                    refine R_s (f' := (26, [some (vR 88), some (vI t), some (vI f), some (vI n), some (vI j), none], [vI 1], LAY (u (u (u (u (shA A) 80 (wr (A 80) (F 16) t)) 81 (wr (A 81) (F 16) f)) 82 (wr (A 82) (F 16) n)) 83 (wr (A 83) (F 16) 0)) (u (shF F) 16 ((F 16) + 1)), 0, 0)) hc158 0 rfl trivial ?_
                    refine R_if (t := 39) hc158 rfl rfl (fun (z : 1 = 0) => absurd z (by decide)) (fun (_ : ¬ (1 = 0)) => ?_)
                    refine R_s (P := True) (f' := (33, [some (vR 88), some (vI t), some (vI f), some (vI n), some (vI j), none], [vI 99, vI 1, vI n], LAY (u (u (u (u (shA A) 80 (wr (A 80) (F 16) t)) 81 (wr (A 81) (F 16) f)) 82 (wr (A 82) (F 16) n)) 83 (wr (A 83) (F 16) 0)) (u (shF F) 16 ((F 16) + 1)), 0, 0)) hc158 3 rfl trivial ?_
                    refine R_cs hc158 rfl rfl ?_ (fun r G h => h)
                    refine R_s (P := True) (f' := (2, [some (vI n), some (vI 1), some (vI 99)], [vI 1, vI n], LAY (u (u (u (u (shA A) 80 (wr (A 80) (F 16) t)) 81 (wr (A 81) (F 16) f)) 82 (wr (A 82) (F 16) n)) 83 (wr (A 83) (F 16) 0)) (u (shF F) 16 ((F 16) + 1)), 0, 0)) hc104 2 rfl trivial ?_
                    refine R_ic (t := 14) hc104 rfl rfl (fun (z : n < 1) => absurd z (by omega)) (fun (_ : ¬ (n < 1)) => ?_)
                    refine R_s (P := True) (f' := (7, [some (vI n), some (vI 1), some (vI 99)], [vI 99, vI n], LAY (u (u (u (u (shA A) 80 (wr (A 80) (F 16) t)) 81 (wr (A 81) (F 16) f)) 82 (wr (A 82) (F 16) n)) 83 (wr (A 83) (F 16) 0)) (u (shF F) 16 ((F 16) + 1)), 0, 0)) hc104 2 rfl trivial ?_
                    refine R_ic (t := 14) hc104 rfl rfl (fun (z : 99 < n) => absurd z (by omega)) (fun (_ : ¬ (99 < n)) => ?_)
                    refine R_s (P := True) (f' := (15, [some (vI n), some (vI 1), some (vI 99)], [vI 1], LAY (u (u (u (u (shA A) 80 (wr (A 80) (F 16) t)) 81 (wr (A 81) (F 16) f)) 82 (wr (A 82) (F 16) n)) 83 (wr (A 83) (F 16) 0)) (u (shF F) 16 ((F 16) + 1)), 0, 0)) hc104 2 rfl trivial ?_
                    refine R_retz hc104 rfl rfl (Or.inr rfl) ?_
                    refine R_s (f' := (36, [some (vR 88), some (vI t), some (vI f), some (vI n), some (vI j), none], [vI 1], LAY (u (u (u (u (shA A) 80 (wr (A 80) (F 16) t)) 81 (wr (A 81) (F 16) f)) 82 (wr (A 82) (F 16) n)) 83 (wr (A 83) (F 16) 0)) (u (shF F) 16 ((F 16) + 1)), 0, 0)) hc158 0 rfl trivial ?_
                    refine R_if (t := 46) hc158 rfl rfl (fun (_ : ¬ 1 = 0) => ?_) (fun (z : ¬ (¬ 1 = 0)) => absurd (by decide) z)
                    refine R_s (P := True) (f' := (52, [some (vR 88), some (vI t), some (vI f), some (vI n), some (vI j), none], [vI 30, vI (F 16)], LAY (u (u (u (u (shA A) 80 (wr (A 80) (F 16) t)) 81 (wr (A 81) (F 16) f)) 82 (wr (A 82) (F 16) n)) 83 (wr (A 83) (F 16) 0)) (u (shF F) 16 ((F 16) + 1)), 0, 0)) hc158 3 rfl trivial ?_
                    refine R_ic (t := 62) hc158 rfl rfl (fun (_ : ¬ F 16 = 30) => ?_) (fun (z : ¬ (¬ F 16 = 30)) => absurd (show ¬ F 16 = 30 by omega) z)
                    refine R_s (P := inI (f + n) ∧ inI ((f + n) - 1) ∧ True) (f' := (70, [some (vR 88), some (vI t), some (vI f), some (vI n), some (vI j), none], [vI ((f + n) - 1), vI f, vI t, vR 88], LAY (u (u (u (u (shA A) 80 (wr (A 80) (F 16) t)) 81 (wr (A 81) (F 16) f)) 82 (wr (A 82) (F 16) n)) 83 (wr (A 83) (F 16) 0)) (u (shF F) 16 ((F 16) + 1)), 0, 0)) hc158 8 rfl ⟨⟨by omega, by omega⟩, ⟨by omega, by omega⟩, trivial⟩ ?_
                    refine R_cv hc158 rfl rfl (l_isLeased (A := (u (u (u (u (shA A) 80 (wr (A 80) (F 16) t)) 81 (wr (A 81) (F 16) f)) 82 (wr (A 82) (F 16) n)) 83 (wr (A 83) (F 16) 0))) (F := (u (shF F) 16 ((F 16) + 1))) (T := A 80) (Fr := A 81) (Y := A 82) ⟨le1, le2⟩ (hL 102 (by decide)) (hL 83 (by decide)) (fun i (hi : (i : Int) < F 16) => hLE.1.2.2.1 i (by omega) hi) (fun i (hi : (i : Int) < F 16) => hLE.1.2.2.2 i (by omega) (by omega))) (fun r G9 hp9 => ?_)
                    obtain ⟨e1, rfl⟩ := hp9
                    have e2 : r = some (vI gv) := by
                      rw [show f + n - 1 + 1 = f + n by omega] at e1
                      rw [hgv, hcf]
                      exact e1
                    clear e1
                    subst e2
                    refine R_s (f' := (73, [some (vR 88), some (vI t), some (vI f), some (vI n), some (vI j), none], [vI gv], LAY (u (u (u (u (shA A) 80 (wr (A 80) (F 16) t)) 81 (wr (A 81) (F 16) f)) 82 (wr (A 82) (F 16) n)) 83 (wr (A 83) (F 16) 0)) (u (shF F) 16 ((F 16) + 1)), 0, 0)) hc158 0 rfl trivial ?_
                    refine R_if (t := 102) hc158 rfl rfl (fun (c128 : ¬ gv = 0) => ?_) (fun (c128 : ¬ (¬ gv = 0)) => ?_)
                    · refine R_s (P := inI (3 * (F 16)) ∧ (0 ≤ 3 * (F 16) ∧ 3 * (F 16) < ((A 102).length : Int)) ∧ inI (3 * (F 16)) ∧ inI ((3 * (F 16)) + 1) ∧ (0 ≤ (3 * (F 16)) + 1 ∧ (3 * (F 16)) + 1 < ((wr (A 102) (3 * (F 16)) t).length : Int)) ∧ inI (3 * (F 16)) ∧ inI ((3 * (F 16)) + 2) ∧ (0 ≤ (3 * (F 16)) + 2 ∧ (3 * (F 16)) + 2 < ((wr (wr (A 102) (3 * (F 16)) t) ((3 * (F 16)) + 1) f).length : Int)) ∧ ((0 ≤ F 16 ∧ F 16 < ((A 83).length : Int)) ∧ (0 = 0 ∨ 0 = 1)) ∧ inI ((F 16) + 1) ∧ inI (((F 16) + 1) - 1) ∧ True) (f' := (172, [some (vR 88), some (vI t), some (vI f), some (vI n), some (vI j), some (vI 0)], [vI (((F 16) + 1) - 1)], LAY (u (u (u (u (u (u (shA A) 80 (wr (A 80) (F 16) t)) 81 (wr (A 81) (F 16) f)) 82 (wr (A 82) (F 16) n)) 83 (wr (A 83) (F 16) 0)) 102 (wr (wr (wr (A 102) (3 * (F 16)) t) ((3 * (F 16)) + 1) f) ((3 * (F 16)) + 2) n)) 103 (wr (A 83) (F 16) 0)) (u (u (shF F) 16 ((F 16) + 1)) 22 ((F 16) + 1)), 0, 0)) hc158 46 rfl ⟨⟨by omega, by omega⟩, ⟨by omega, by omega⟩, ⟨by omega, by omega⟩, ⟨by omega, by omega⟩, ⟨by omega, by simp only [wr_len]; omega⟩, ⟨by omega, by omega⟩, ⟨by omega, by omega⟩, ⟨by omega, by simp only [wr_len]; omega⟩, ⟨⟨by omega, by omega⟩, by omega⟩, ⟨by omega, by omega⟩, ⟨by omega, by omega⟩, trivial⟩ ?_
                      refine R_reti hc158 rfl rfl ?_
                      first
                        | (exfalso; omega; done)
                        | exact ⟨(by rw [show ((F 16) + 1) - 1 = F 16 by omega]), (u (u (u (u (u A 80 (wr (A 80) (F 16) t)) 81 (wr (A 81) (F 16) f)) 82 (wr (A 82) (F 16) n)) 83 (wr (A 83) (F 16) 0)) 102 (wr (wr (wr (A 102) (3 * (F 16)) t) ((3 * (F 16)) + 1) f) ((3 * (F 16)) + 2) n)), (u F 16 ((F 16) + 1)), rfl, rfl, ⟨(LENS_u (LENS_u (LENS_u (LENS_u (LENS_u hL (by show (wr (A 80) (F 16) t).length = (A 80).length; simp only [wr_len])) (by show (wr (A 81) (F 16) f).length = (A 81).length; simp only [wr_len])) (by show (wr (A 82) (F 16) n).length = (A 82).length; simp only [wr_len])) (by show (wr (A 83) (F 16) 0).length = (A 83).length; simp only [wr_len])) (by show (wr (wr (wr (A 102) (3 * (F 16)) t) ((3 * (F 16)) + 1) f) ((3 * (F 16)) + 2) n).length = (A 102).length; simp only [wr_len])), hR0.2.1, hR0.2.2.1, hR0.2.2.2.1, hR0.2.2.2.2.1, ⟨LEAS_add hR0.2.2.2.2.2.1.1 (hL 80 (by decide)) (hL 81 (by decide)) (hL 82 (by decide)) (hL 83 (by decide)) (hL 102 (by decide)) (by omega) ⟨by omega, by omega⟩ ⟨by omega, by omega⟩ (by decide), hR0.2.2.2.2.2.1.2⟩, hR0.2.2.2.2.2.2.1, hR0.2.2.2.2.2.2.2.1, hR0.2.2.2.2.2.2.2.2.1, (REFU_c hR0.2.2.2.2.2.2.2.2.2)⟩⟩
                    · refine R_s (P := (0 ≤ t ∧ t < ((A 15).length : Int)) ∧ True) (f' := (82, [some (vR 88), some (vI t), some (vI f), some (vI n), some (vI j), none], [vI (rd (A 15) t)], LAY (u (u (u (u (shA A) 80 (wr (A 80) (F 16) t)) 81 (wr (A 81) (F 16) f)) 82 (wr (A 82) (F 16) n)) 83 (wr (A 83) (F 16) 0)) (u (shF F) 16 ((F 16) + 1)), 0, 0)) hc158 4 rfl ⟨⟨by omega, by omega⟩, trivial⟩ ?_
                      refine R_if (t := 102) hc158 rfl rfl (fun (_ : ¬ rd (A 15) t = 0) => ?_) (fun (z : ¬ (¬ rd (A 15) t = 0)) => absurd (show ¬ rd (A 15) t = 0 by omega) z)
                      refine R_s (P := inI (3 * (F 16)) ∧ (0 ≤ 3 * (F 16) ∧ 3 * (F 16) < ((A 102).length : Int)) ∧ inI (3 * (F 16)) ∧ inI ((3 * (F 16)) + 1) ∧ (0 ≤ (3 * (F 16)) + 1 ∧ (3 * (F 16)) + 1 < ((wr (A 102) (3 * (F 16)) t).length : Int)) ∧ inI (3 * (F 16)) ∧ inI ((3 * (F 16)) + 2) ∧ (0 ≤ (3 * (F 16)) + 2 ∧ (3 * (F 16)) + 2 < ((wr (wr (A 102) (3 * (F 16)) t) ((3 * (F 16)) + 1) f).length : Int)) ∧ ((0 ≤ F 16 ∧ F 16 < ((A 83).length : Int)) ∧ (0 = 0 ∨ 0 = 1)) ∧ inI ((F 16) + 1) ∧ inI (((F 16) + 1) - 1) ∧ True) (f' := (172, [some (vR 88), some (vI t), some (vI f), some (vI n), some (vI j), some (vI 0)], [vI (((F 16) + 1) - 1)], LAY (u (u (u (u (u (u (shA A) 80 (wr (A 80) (F 16) t)) 81 (wr (A 81) (F 16) f)) 82 (wr (A 82) (F 16) n)) 83 (wr (A 83) (F 16) 0)) 102 (wr (wr (wr (A 102) (3 * (F 16)) t) ((3 * (F 16)) + 1) f) ((3 * (F 16)) + 2) n)) 103 (wr (A 83) (F 16) 0)) (u (u (shF F) 16 ((F 16) + 1)) 22 ((F 16) + 1)), 0, 0)) hc158 46 rfl ⟨⟨by omega, by omega⟩, ⟨by omega, by omega⟩, ⟨by omega, by omega⟩, ⟨by omega, by omega⟩, ⟨by omega, by simp only [wr_len]; omega⟩, ⟨by omega, by omega⟩, ⟨by omega, by omega⟩, ⟨by omega, by simp only [wr_len]; omega⟩, ⟨⟨by omega, by omega⟩, by omega⟩, ⟨by omega, by omega⟩, ⟨by omega, by omega⟩, trivial⟩ ?_
                      refine R_reti hc158 rfl rfl ?_
                      first
                        | (exfalso; omega; done)
                        | exact ⟨(by rw [show ((F 16) + 1) - 1 = F 16 by omega]), (u (u (u (u (u A 80 (wr (A 80) (F 16) t)) 81 (wr (A 81) (F 16) f)) 82 (wr (A 82) (F 16) n)) 83 (wr (A 83) (F 16) 0)) 102 (wr (wr (wr (A 102) (3 * (F 16)) t) ((3 * (F 16)) + 1) f) ((3 * (F 16)) + 2) n)), (u F 16 ((F 16) + 1)), rfl, rfl, ⟨(LENS_u (LENS_u (LENS_u (LENS_u (LENS_u hL (by show (wr (A 80) (F 16) t).length = (A 80).length; simp only [wr_len])) (by show (wr (A 81) (F 16) f).length = (A 81).length; simp only [wr_len])) (by show (wr (A 82) (F 16) n).length = (A 82).length; simp only [wr_len])) (by show (wr (A 83) (F 16) 0).length = (A 83).length; simp only [wr_len])) (by show (wr (wr (wr (A 102) (3 * (F 16)) t) ((3 * (F 16)) + 1) f) ((3 * (F 16)) + 2) n).length = (A 102).length; simp only [wr_len])), hR0.2.1, hR0.2.2.1, hR0.2.2.2.1, hR0.2.2.2.2.1, ⟨LEAS_add hR0.2.2.2.2.2.1.1 (hL 80 (by decide)) (hL 81 (by decide)) (hL 82 (by decide)) (hL 83 (by decide)) (hL 102 (by decide)) (by omega) ⟨by omega, by omega⟩ ⟨by omega, by omega⟩ (by decide), hR0.2.2.2.2.2.1.2⟩, hR0.2.2.2.2.2.2.1, hR0.2.2.2.2.2.2.2.1, hR0.2.2.2.2.2.2.2.2.1, (REFU_c hR0.2.2.2.2.2.2.2.2.2)⟩⟩
                  · refine R_s (P := inI (f + n) ∧ True) (f' := (119, [some (vR 1), some (vI t), some (vI f), some (vI n), some (vI j), some (vI 1), none], [vI (f + n), vI f, vI t, vR 79], LAY (shA A) (shF F), 0, 0)) hc83 7 rfl ⟨⟨by omega, by omega⟩, trivial⟩ ?_
                    refine R_cv hc83 rfl rfl (l_isFree (A := (shA A)) (F := (shF F)) (LENS_sh hL) ⟨le1, le2⟩ (fun i (hi : (i : Int) < F 16) => (hLE.1.2.2.1 i (by omega) hi).2.2.2) (fun i (hi : (i : Int) < F 16) => hLE.1.2.2.2 i (by omega) (by omega))) (fun r G9 hp9 => ?_)
                    obtain ⟨e1, rfl⟩ := hp9
                    have e2 : r = some (vI fv) := by rw [hfv, hcf]; exact e1
                    clear e1
                    subst e2
                    refine R_s (f' := (122, [some (vR 1), some (vI t), some (vI f), some (vI n), some (vI j), some (vI 1), none], [vI fv], LAY (shA A) (shF F), 0, 0)) hc83 0 rfl trivial ?_
                    refine R_if (t := 129) hc83 rfl rfl (fun (c18 : fv = 0) => ?_) (fun (c18 : ¬ (fv = 0)) => ?_)
                    · refine R_s (P := True) (f' := (141, [some (vR 1), some (vI t), some (vI f), some (vI n), some (vI j), some (vI 1), some (vI 0)], [vI 0, vI n, vI f, vI t, vR 79], LAY (shA A) (shF F), 0, 0)) hc83 8 rfl trivial ?_
                      refine R_cv hc83 rfl rfl ?_ (fun r G h => h)
                      refine R_s (P := (0 ≤ F 16 ∧ F 16 < ((A 80).length : Int)) ∧ (0 ≤ F 16 ∧ F 16 < ((A 81).length : Int)) ∧ (0 ≤ F 16 ∧ F 16 < ((A 82).length : Int)) ∧ ((0 ≤ F 16 ∧ F 16 < ((A 83).length : Int)) ∧ (0 = 0 ∨ 0 = 1)) ∧ inI ((F 16) + 1) ∧ True) (f' := (51, [some (vR 79), some (vI t), some (vI f), some (vI n), some (vI 0), some (vI (F 16))], [vI (F 16)], LAY (u (u (u (u (shA A) 80 (wr (A 80) (F 16) t)) 81 (wr (A 81) (F 16) f)) 82 (wr (A 82) (F 16) n)) 83 (wr (A 83) (F 16) 0)) (u (shF F) 16 ((F 16) + 1)), 0, 0)) hc22 30 rfl ⟨⟨by omega, by omega⟩, ⟨by omega, by omega⟩, ⟨by omega, by omega⟩, ⟨⟨by omega, by omega⟩, by omega⟩, ⟨by omega, by omega⟩, trivial⟩ ?_
                      refine R_reti hc22 rfl rfl ?_
                      refine R_s (f' := (144, [some (vR 1), some (vI t), some (vI f), some (vI n), some (vI j), some (vI 1), some (vI 0)], [vI (F 16)], LAY (u (u (u (u (shA A) 80 (wr (A 80) (F 16) t)) 81 (wr (A 81) (F 16) f)) 82 (wr (A 82) (F 16) n)) 83 (wr (A 83) (F 16) 0)) (u (shF F) 16 ((F 16) + 1)), 0, 0)) hc83 0 rfl trivial ?_
                      refine R_reti hc83 rfl rfl ⟨⟨_, rfl⟩, ⟨_, _, rfl, rfl⟩, ?_⟩
                      refine R_s (P := True) (f' := (2, [some (vR 88), some (vI t), some (vI f), some (vI n), some (vI j), none], [vI t, vR 88], LAY (u (u (u (u (shA A) 80 (wr (A 80) (F 16) t)) 81 (wr (A 81) (F 16) f)) 82 (wr (A 82) (F 16) n)) 83 (wr (A 83) (F 16) 0)) (u (shF F) 16 ((F 16) + 1)), 0, 0)) hc158 2 rfl trivial ?_
                      refine R_cv hc158 rfl rfl ?_ (fun r G h => h)
                      refine R_s (P := inI ((F 4) - 1) ∧ True) (f' := (8, [some (vR 88), some (vI t)], [vI ((F 4) - 1), vI 0, vI t], LAY (u (u (u (u (shA A) 80 (wr (A 80) (F 16) t)) 81 (wr (A 81) (F 16) f)) 82 (wr (A 82) (F 16) n)) 83 (wr (A 83) (F 16) 0)) (u (shF F) 16 ((F 16) + 1)), 0, 0)) hc107 6 rfl ⟨⟨by omega, by omega⟩, trivial⟩ ?_
                      refine R_cs hc107 rfl rfl ?_ (fun r G h => h)
                      refine R_s (P := True) (f' := (2, [some (vI t), some (vI 0), some (vI ((F 4) - 1))], [vI 0, vI t], LAY (u (u (u (u (shA A) 80 (wr (A 80) (F 16) t)) 81 (wr (A 81) (F 16) f)) 82 (wr (A 82) (F 16) n)) 83 (wr (A 83) (F 16) 0)) (u (shF F) 16 ((F 16) + 1)), 0, 0)) hc104 2 rfl trivial ?_
                      refine R_ic (t := 14) hc104 rfl rfl (fun (z : t < 0) => absurd z (by omega)) (fun (_ : ¬ (t < 0)) => ?_)
                      refine R_s (P := True) (f' := (7, [some (vI t), some (vI 0), some (vI ((F 4) - 1))], [vI ((F 4) - 1), vI t], LAY (u (u (u (u (shA A) 80 (wr (A 80) (F 16) t)) 81 (wr (A 81) (F 16) f)) 82 (wr (A 82) (F 16) n)) 83 (wr (A 83) (F 16) 0)) (u (shF F) 16 ((F 16) + 1)), 0, 0)) hc104 2 rfl trivial ?_
                      refine R_ic (t := 14) hc104 rfl rfl (fun (z : (F 4) - 1 < t) => absurd z (by omega)) (fun (_ : ¬ ((F 4) - 1 < t)) => ?_)
                      refine R_s (P := True) (f' := (15, [some (vI t), some (vI 0), some (vI ((F 4) - 1))], [vI 1], LAY (u (u (u (u (shA A) 80 (wr (A 80) (F 16) t)) 81 (wr (A 81) (F 16) f)) 82 (wr (A 82) (F 16) n)) 83 (wr (A 83) (F 16) 0)) (u (shF F) 16 ((F 16) + 1)), 0, 0)) hc104 2 rfl trivial ?_
                      refine R_retz hc104 rfl rfl (Or.inr rfl) ?_
                      refine R_s (f' := (11, [some (vR 88), some (vI t)], [vI 1], LAY (u (u (u (u (shA A) 80 (wr (A 80) (F 16) t)) 81 (wr (A 81) (F 16) f)) 82 (wr (A 82) (F 16) n)) 83 (wr (A 83) (F 16) 0)) (u (shF F) 16 ((F 16) + 1)), 0, 0)) hc107 0 rfl trivial ?_
                      refine R_retz hc107 rfl rfl (Or.inr rfl) ?_
                      refine R_s (f' := (5, [some (vR 88), some (vI t), some (vI f), some (vI n), some (vI j), none], [vI 1], LAY (u (u (u (u (shA A) 80 (wr (A 80) (F 16) t)) 81 (wr (A 81) (F 16) f)) 82 (wr (A 82) (F 16) n)) 83 (wr (A 83) (F 16) 0)) (u (shF F) 16 ((F 16) + 1)), 0, 0)) hc158 0 rfl trivial ?_
                      refine R_if (t := 15) hc158 rfl rfl (fun (_ : ¬ 1 = 0) => ?_) (fun (z : ¬ (¬ 1 = 0)) => absurd (by decide) z)
                      refine R_s (P := True) (f' := (23, [some (vR 88), some (vI t), some (vI f), some (vI n), some (vI j), none], [vI 700, vI (F 2), vI f], LAY (u (u (u (u (shA A) 80 (wr (A 80) (F 16) t)) 81 (wr (A 81) (F 16) f)) 82 (wr (A 82) (F 16) n)) 83 (wr (A 83) (F 16) 0)) (u (shF F) 16 ((F 16) + 1)), 0, 0)) hc158 4 rfl trivial ?_
                      refine R_cs hc158 rfl rfl ?_ (fun r G h => h)
                      refine R_s (P := True) (f' := (2, [some (vI f), some (vI (F 2)), some (vI 700)], [vI (F 2), vI f], LAY (u (u (u (u (shA A) 80 (wr (A 80) (F 16) t)) 81 (wr (A 81) (F 16) f)) 82 (wr (A 82) (F 16) n)) 83 (wr (A 83) (F 16) 0)) (u (shF F) 16 ((F 16) + 1)), 0, 0)) hc104 2 rfl trivial ?_
                      refine R_ic (t := 14) hc104 rfl rfl (fun (z : f < F 2) => absurd z (by omega)) (fun (_ : ¬ (f < F 2)) => ?_)
                      refine R_s (P := True) (f' := (7, [some (vI f), some (vI (F 2)), some (vI 700)], [vI 700, vI f], LAY (u (u (u (u (shA A) 80 (wr (A 80) (F 16) t)) 81 (wr (A 81) (F 16) f)) 82 (wr (A 82) (F 16) n)) 83 (wr (A 83) (F 16) 0)) (u (shF F) 16 ((F 16) + 1)), 0, 0)) hc104 2 rfl trivial ?_
                      refine R_ic (t := 14) hc104 rfl rfl (fun (z : 700 < f) => absurd z (by omega)) (fun (_ : ¬ (700 < f)) => ?_)
                      refine R_s (P := True) (f' := (15, [some (vI f), some (vI (F 2)), some (vI 700)], [vI 1], LAY (u (u (u (u (shA A) 80 (wr (A 80) (F 16) t)) 81 (wr (A 81) (F 16) f)) 82 (wr (A 82) (F 16) n)) 83 (wr (A 83) (F 16) 0)) (u (shF F) 16 ((F 16) + 1)), 0, 0)) hc104 2 rfl trivial ?_
                      refine R_retz hc104 rfl rfl (Or.inr rfl) ?_
                      refine R_s (f' := (26, [some (vR 88), some (vI t), some (vI f), some (vI n), some (vI j), none], [vI 1], LAY (u (u (u (u (shA A) 80 (wr (A 80) (F 16) t)) 81 (wr (A 81) (F 16) f)) 82 (wr (A 82) (F 16) n)) 83 (wr (A 83) (F 16) 0)) (u (shF F) 16 ((F 16) + 1)), 0, 0)) hc158 0 rfl trivial ?_
                      refine R_if (t := 39) hc158 rfl rfl (fun (z : 1 = 0) => absurd z (by decide)) (fun (_ : ¬ (1 = 0)) => ?_)
                      refine R_s (P := True) (f' := (33, [some (vR 88), some (vI t), some (vI f), some (vI n), some (vI j), none], [vI 99, vI 1, vI n], LAY (u (u (u (u (shA A) 80 (wr (A 80) (F 16) t)) 81 (wr (A 81) (F 16) f)) 82 (wr (A 82) (F 16) n)) 83 (wr (A 83) (F 16) 0)) (u (shF F) 16 ((F 16) + 1)), 0, 0)) hc158 3 rfl trivial ?_
                      refine R_cs hc158 rfl rfl ?_ (fun r G h => h)
                      refine R_s (P := True) (f' := (2, [some (vI n), some (vI 1), some (vI 99)], [vI 1, vI n], LAY (u (u (u (u (shA A) 80 (wr (A 80) (F 16) t)) 81 (wr (A 81) (F 16) f)) 82 (wr (A 82) (F 16) n)) 83 (wr (A 83) (F 16) 0)) (u (shF F) 16 ((F 16) + 1)), 0, 0)) hc104 2 rfl trivial ?_
                      refine R_ic (t := 14) hc104 rfl rfl (fun (z : n < 1) => absurd z (by omega)) (fun (_ : ¬ (n < 1)) => ?_)
                      refine R_s (P := True) (f' := (7, [some (vI n), some (vI 1), some (vI 99)], [vI 99, vI n], LAY (u (u (u (u (shA A) 80 (wr (A 80) (F 16) t)) 81 (wr (A 81) (F 16) f)) 82 (wr (A 82) (F 16) n)) 83 (wr (A 83) (F 16) 0)) (u (shF F) 16 ((F 16) + 1)), 0, 0)) hc104 2 rfl trivial ?_
                      refine R_ic (t := 14) hc104 rfl rfl (fun (z : 99 < n) => absurd z (by omega)) (fun (_ : ¬ (99 < n)) => ?_)
                      refine R_s (P := True) (f' := (15, [some (vI n), some (vI 1), some (vI 99)], [vI 1], LAY (u (u (u (u (shA A) 80 (wr (A 80) (F 16) t)) 81 (wr (A 81) (F 16) f)) 82 (wr (A 82) (F 16) n)) 83 (wr (A 83) (F 16) 0)) (u (shF F) 16 ((F 16) + 1)), 0, 0)) hc104 2 rfl trivial ?_
                      refine R_retz hc104 rfl rfl (Or.inr rfl) ?_
                      refine R_s (f' := (36, [some (vR 88), some (vI t), some (vI f), some (vI n), some (vI j), none], [vI 1], LAY (u (u (u (u (shA A) 80 (wr (A 80) (F 16) t)) 81 (wr (A 81) (F 16) f)) 82 (wr (A 82) (F 16) n)) 83 (wr (A 83) (F 16) 0)) (u (shF F) 16 ((F 16) + 1)), 0, 0)) hc158 0 rfl trivial ?_
                      refine R_if (t := 46) hc158 rfl rfl (fun (_ : ¬ 1 = 0) => ?_) (fun (z : ¬ (¬ 1 = 0)) => absurd (by decide) z)
                      refine R_s (P := True) (f' := (52, [some (vR 88), some (vI t), some (vI f), some (vI n), some (vI j), none], [vI 30, vI (F 16)], LAY (u (u (u (u (shA A) 80 (wr (A 80) (F 16) t)) 81 (wr (A 81) (F 16) f)) 82 (wr (A 82) (F 16) n)) 83 (wr (A 83) (F 16) 0)) (u (shF F) 16 ((F 16) + 1)), 0, 0)) hc158 3 rfl trivial ?_
                      refine R_ic (t := 62) hc158 rfl rfl (fun (_ : ¬ F 16 = 30) => ?_) (fun (z : ¬ (¬ F 16 = 30)) => absurd (show ¬ F 16 = 30 by omega) z)
                      refine R_s (P := inI (f + n) ∧ inI ((f + n) - 1) ∧ True) (f' := (70, [some (vR 88), some (vI t), some (vI f), some (vI n), some (vI j), none], [vI ((f + n) - 1), vI f, vI t, vR 88], LAY (u (u (u (u (shA A) 80 (wr (A 80) (F 16) t)) 81 (wr (A 81) (F 16) f)) 82 (wr (A 82) (F 16) n)) 83 (wr (A 83) (F 16) 0)) (u (shF F) 16 ((F 16) + 1)), 0, 0)) hc158 8 rfl ⟨⟨by omega, by omega⟩, ⟨by omega, by omega⟩, trivial⟩ ?_
                      refine R_cv hc158 rfl rfl (l_isLeased (A := (u (u (u (u (shA A) 80 (wr (A 80) (F 16) t)) 81 (wr (A 81) (F 16) f)) 82 (wr (A 82) (F 16) n)) 83 (wr (A 83) (F 16) 0))) (F := (u (shF F) 16 ((F 16) + 1))) (T := A 80) (Fr := A 81) (Y := A 82) ⟨le1, le2⟩ (hL 102 (by decide)) (hL 83 (by decide)) (fun i (hi : (i : Int) < F 16) => hLE.1.2.2.1 i (by omega) hi) (fun i (hi : (i : Int) < F 16) => hLE.1.2.2.2 i (by omega) (by omega))) (fun r G9 hp9 => ?_)
                      obtain ⟨e1, rfl⟩ := hp9
                      have e2 : r = some (vI gv) := by
                        rw [show f + n - 1 + 1 = f + n by omega] at e1
                        rw [hgv, hcf]
                        exact e1
                      clear e1
                      subst e2
                      refine R_s (f' := (73, [some (vR 88), some (vI t), some (vI f), some (vI n), some (vI j), none], [vI gv], LAY (u (u (u (u (shA A) 80 (wr (A 80) (F 16) t)) 81 (wr (A 81) (F 16) f)) 82 (wr (A 82) (F 16) n)) 83 (wr (A 83) (F 16) 0)) (u (shF F) 16 ((F 16) + 1)), 0, 0)) hc158 0 rfl trivial ?_
                      refine R_if (t := 102) hc158 rfl rfl (fun (c129 : ¬ gv = 0) => ?_) (fun (c129 : ¬ (¬ gv = 0)) => ?_)
                      · refine R_s (P := inI (3 * (F 16)) ∧ (0 ≤ 3 * (F 16) ∧ 3 * (F 16) < ((A 102).length : Int)) ∧ inI (3 * (F 16)) ∧ inI ((3 * (F 16)) + 1) ∧ (0 ≤ (3 * (F 16)) + 1 ∧ (3 * (F 16)) + 1 < ((wr (A 102) (3 * (F 16)) t).length : Int)) ∧ inI (3 * (F 16)) ∧ inI ((3 * (F 16)) + 2) ∧ (0 ≤ (3 * (F 16)) + 2 ∧ (3 * (F 16)) + 2 < ((wr (wr (A 102) (3 * (F 16)) t) ((3 * (F 16)) + 1) f).length : Int)) ∧ ((0 ≤ F 16 ∧ F 16 < ((A 83).length : Int)) ∧ (0 = 0 ∨ 0 = 1)) ∧ inI ((F 16) + 1) ∧ inI (((F 16) + 1) - 1) ∧ True) (f' := (172, [some (vR 88), some (vI t), some (vI f), some (vI n), some (vI j), some (vI 0)], [vI (((F 16) + 1) - 1)], LAY (u (u (u (u (u (u (shA A) 80 (wr (A 80) (F 16) t)) 81 (wr (A 81) (F 16) f)) 82 (wr (A 82) (F 16) n)) 83 (wr (A 83) (F 16) 0)) 102 (wr (wr (wr (A 102) (3 * (F 16)) t) ((3 * (F 16)) + 1) f) ((3 * (F 16)) + 2) n)) 103 (wr (A 83) (F 16) 0)) (u (u (shF F) 16 ((F 16) + 1)) 22 ((F 16) + 1)), 0, 0)) hc158 46 rfl ⟨⟨by omega, by omega⟩, ⟨by omega, by omega⟩, ⟨by omega, by omega⟩, ⟨by omega, by omega⟩, ⟨by omega, by simp only [wr_len]; omega⟩, ⟨by omega, by omega⟩, ⟨by omega, by omega⟩, ⟨by omega, by simp only [wr_len]; omega⟩, ⟨⟨by omega, by omega⟩, by omega⟩, ⟨by omega, by omega⟩, ⟨by omega, by omega⟩, trivial⟩ ?_
                        refine R_reti hc158 rfl rfl ?_
                        first
                          | (exfalso; omega; done)
                          | exact ⟨(by rw [show ((F 16) + 1) - 1 = F 16 by omega]), (u (u (u (u (u A 80 (wr (A 80) (F 16) t)) 81 (wr (A 81) (F 16) f)) 82 (wr (A 82) (F 16) n)) 83 (wr (A 83) (F 16) 0)) 102 (wr (wr (wr (A 102) (3 * (F 16)) t) ((3 * (F 16)) + 1) f) ((3 * (F 16)) + 2) n)), (u F 16 ((F 16) + 1)), rfl, rfl, ⟨(LENS_u (LENS_u (LENS_u (LENS_u (LENS_u hL (by show (wr (A 80) (F 16) t).length = (A 80).length; simp only [wr_len])) (by show (wr (A 81) (F 16) f).length = (A 81).length; simp only [wr_len])) (by show (wr (A 82) (F 16) n).length = (A 82).length; simp only [wr_len])) (by show (wr (A 83) (F 16) 0).length = (A 83).length; simp only [wr_len])) (by show (wr (wr (wr (A 102) (3 * (F 16)) t) ((3 * (F 16)) + 1) f) ((3 * (F 16)) + 2) n).length = (A 102).length; simp only [wr_len])), hR0.2.1, hR0.2.2.1, hR0.2.2.2.1, hR0.2.2.2.2.1, ⟨LEAS_add hR0.2.2.2.2.2.1.1 (hL 80 (by decide)) (hL 81 (by decide)) (hL 82 (by decide)) (hL 83 (by decide)) (hL 102 (by decide)) (by omega) ⟨by omega, by omega⟩ ⟨by omega, by omega⟩ (by decide), hR0.2.2.2.2.2.1.2⟩, hR0.2.2.2.2.2.2.1, hR0.2.2.2.2.2.2.2.1, hR0.2.2.2.2.2.2.2.2.1, (REFU_c hR0.2.2.2.2.2.2.2.2.2)⟩⟩
                      · refine R_s (P := (0 ≤ t ∧ t < ((A 15).length : Int)) ∧ True) (f' := (82, [some (vR 88), some (vI t), some (vI f), some (vI n), some (vI j), none], [vI (rd (A 15) t)], LAY (u (u (u (u (shA A) 80 (wr (A 80) (F 16) t)) 81 (wr (A 81) (F 16) f)) 82 (wr (A 82) (F 16) n)) 83 (wr (A 83) (F 16) 0)) (u (shF F) 16 ((F 16) + 1)), 0, 0)) hc158 4 rfl ⟨⟨by omega, by omega⟩, trivial⟩ ?_
                        refine R_if (t := 102) hc158 rfl rfl (fun (z : ¬ rd (A 15) t = 0) => absurd z (by omega)) (fun (_ : ¬ (¬ rd (A 15) t = 0)) => ?_)
                        refine R_s (P := True) (f' := (90, [some (vR 88), some (vI t), some (vI f), some (vI n), some (vI j), none], [vI (F 17), vI n], LAY (u (u (u (u (shA A) 80 (wr (A 80) (F 16) t)) 81 (wr (A 81) (F 16) f)) 82 (wr (A 82) (F 16) n)) 83 (wr (A 83) (F 16) 0)) (u (shF F) 16 ((F 16) + 1)), 0, 0)) hc158 3 rfl trivial ?_
                        refine R_ic (t := 98) hc158 rfl rfl (fun (c131 : n ≤ F 17) => ?_) (fun (c131 : ¬ (n ≤ F 17)) => ?_)
                        · refine R_s (P := inI (3 * (F 16)) ∧ (0 ≤ 3 * (F 16) ∧ 3 * (F 16) < ((A 102).length : Int)) ∧ inI (3 * (F 16)) ∧ inI ((3 * (F 16)) + 1) ∧ (0 ≤ (3 * (F 16)) + 1 ∧ (3 * (F 16)) + 1 < ((wr (A 102) (3 * (F 16)) t).length : Int)) ∧ inI (3 * (F 16)) ∧ inI ((3 * (F 16)) + 2) ∧ (0 ≤ (3 * (F 16)) + 2 ∧ (3 * (F 16)) + 2 < ((wr (wr (A 102) (3 * (F 16)) t) ((3 * (F 16)) + 1) f).length : Int)) ∧ ((0 ≤ F 16 ∧ F 16 < ((A 83).length : Int)) ∧ (1 = 0 ∨ 1 = 1)) ∧ inI ((F 16) + 1) ∧ inI (((F 16) + 1) - 1) ∧ True) (f' := (172, [some (vR 88), some (vI t), some (vI f), some (vI n), some (vI j), some (vI 1)], [vI (((F 16) + 1) - 1)], LAY (u (u (u (u (u (u (shA A) 80 (wr (A 80) (F 16) t)) 81 (wr (A 81) (F 16) f)) 82 (wr (A 82) (F 16) n)) 83 (wr (A 83) (F 16) 0)) 102 (wr (wr (wr (A 102) (3 * (F 16)) t) ((3 * (F 16)) + 1) f) ((3 * (F 16)) + 2) n)) 103 (wr (A 83) (F 16) 1)) (u (u (shF F) 16 ((F 16) + 1)) 22 ((F 16) + 1)), 0, 0)) hc158 47 rfl ⟨⟨by omega, by omega⟩, ⟨by omega, by omega⟩, ⟨by omega, by omega⟩, ⟨by omega, by omega⟩, ⟨by omega, by simp only [wr_len]; omega⟩, ⟨by omega, by omega⟩, ⟨by omega, by omega⟩, ⟨by omega, by simp only [wr_len]; omega⟩, ⟨⟨by omega, by omega⟩, by omega⟩, ⟨by omega, by omega⟩, ⟨by omega, by omega⟩, trivial⟩ ?_
                          refine R_reti hc158 rfl rfl ?_
                          first
                            | (exfalso; omega; done)
                            | exact ⟨(by rw [show ((F 16) + 1) - 1 = F 16 by omega]), (u (u (u (u (u A 80 (wr (A 80) (F 16) t)) 81 (wr (A 81) (F 16) f)) 82 (wr (A 82) (F 16) n)) 83 (wr (A 83) (F 16) 0)) 102 (wr (wr (wr (A 102) (3 * (F 16)) t) ((3 * (F 16)) + 1) f) ((3 * (F 16)) + 2) n)), (u F 16 ((F 16) + 1)), rfl, rfl, ⟨(LENS_u (LENS_u (LENS_u (LENS_u (LENS_u hL (by show (wr (A 80) (F 16) t).length = (A 80).length; simp only [wr_len])) (by show (wr (A 81) (F 16) f).length = (A 81).length; simp only [wr_len])) (by show (wr (A 82) (F 16) n).length = (A 82).length; simp only [wr_len])) (by show (wr (A 83) (F 16) 0).length = (A 83).length; simp only [wr_len])) (by show (wr (wr (wr (A 102) (3 * (F 16)) t) ((3 * (F 16)) + 1) f) ((3 * (F 16)) + 2) n).length = (A 102).length; simp only [wr_len])), hR0.2.1, hR0.2.2.1, hR0.2.2.2.1, hR0.2.2.2.2.1, ⟨LEAS_add hR0.2.2.2.2.2.1.1 (hL 80 (by decide)) (hL 81 (by decide)) (hL 82 (by decide)) (hL 83 (by decide)) (hL 102 (by decide)) (by omega) ⟨by omega, by omega⟩ ⟨by omega, by omega⟩ (by decide), hR0.2.2.2.2.2.1.2⟩, hR0.2.2.2.2.2.2.1, hR0.2.2.2.2.2.2.2.1, hR0.2.2.2.2.2.2.2.2.1, (REFU_c hR0.2.2.2.2.2.2.2.2.2)⟩⟩
                        · refine R_s (P := True) (f' := (95, [some (vR 88), some (vI t), some (vI f), some (vI n), some (vI j), none], [vI j], LAY (u (u (u (u (shA A) 80 (wr (A 80) (F 16) t)) 81 (wr (A 81) (F 16) f)) 82 (wr (A 82) (F 16) n)) 83 (wr (A 83) (F 16) 0)) (u (shF F) 16 ((F 16) + 1)), 0, 0)) hc158 1 rfl trivial ?_
                          refine R_if (t := 102) hc158 rfl rfl (fun (z : j = 0) => absurd z (by omega)) (fun (_ : ¬ (j = 0)) => ?_)
                          refine R_s (P := inI (3 * (F 16)) ∧ (0 ≤ 3 * (F 16) ∧ 3 * (F 16) < ((A 102).length : Int)) ∧ inI (3 * (F 16)) ∧ inI ((3 * (F 16)) + 1) ∧ (0 ≤ (3 * (F 16)) + 1 ∧ (3 * (F 16)) + 1 < ((wr (A 102) (3 * (F 16)) t).length : Int)) ∧ inI (3 * (F 16)) ∧ inI ((3 * (F 16)) + 2) ∧ (0 ≤ (3 * (F 16)) + 2 ∧ (3 * (F 16)) + 2 < ((wr (wr (A 102) (3 * (F 16)) t) ((3 * (F 16)) + 1) f).length : Int)) ∧ ((0 ≤ F 16 ∧ F 16 < ((A 83).length : Int)) ∧ (1 = 0 ∨ 1 = 1)) ∧ inI ((F 16) + 1) ∧ inI (((F 16) + 1) - 1) ∧ True) (f' := (172, [some (vR 88), some (vI t), some (vI f), some (vI n), some (vI j), some (vI 1)], [vI (((F 16) + 1) - 1)], LAY (u (u (u (u (u (u (shA A) 80 (wr (A 80) (F 16) t)) 81 (wr (A 81) (F 16) f)) 82 (wr (A 82) (F 16) n)) 83 (wr (A 83) (F 16) 0)) 102 (wr (wr (wr (A 102) (3 * (F 16)) t) ((3 * (F 16)) + 1) f) ((3 * (F 16)) + 2) n)) 103 (wr (A 83) (F 16) 1)) (u (u (shF F) 16 ((F 16) + 1)) 22 ((F 16) + 1)), 0, 0)) hc158 47 rfl ⟨⟨by omega, by omega⟩, ⟨by omega, by omega⟩, ⟨by omega, by omega⟩, ⟨by omega, by omega⟩, ⟨by omega, by simp only [wr_len]; omega⟩, ⟨by omega, by omega⟩, ⟨by omega, by omega⟩, ⟨by omega, by simp only [wr_len]; omega⟩, ⟨⟨by omega, by omega⟩, by omega⟩, ⟨by omega, by omega⟩, ⟨by omega, by omega⟩, trivial⟩ ?_
                          refine R_reti hc158 rfl rfl ?_
                          first
                            | (exfalso; omega; done)
                            | exact ⟨(by rw [show ((F 16) + 1) - 1 = F 16 by omega]), (u (u (u (u (u A 80 (wr (A 80) (F 16) t)) 81 (wr (A 81) (F 16) f)) 82 (wr (A 82) (F 16) n)) 83 (wr (A 83) (F 16) 0)) 102 (wr (wr (wr (A 102) (3 * (F 16)) t) ((3 * (F 16)) + 1) f) ((3 * (F 16)) + 2) n)), (u F 16 ((F 16) + 1)), rfl, rfl, ⟨(LENS_u (LENS_u (LENS_u (LENS_u (LENS_u hL (by show (wr (A 80) (F 16) t).length = (A 80).length; simp only [wr_len])) (by show (wr (A 81) (F 16) f).length = (A 81).length; simp only [wr_len])) (by show (wr (A 82) (F 16) n).length = (A 82).length; simp only [wr_len])) (by show (wr (A 83) (F 16) 0).length = (A 83).length; simp only [wr_len])) (by show (wr (wr (wr (A 102) (3 * (F 16)) t) ((3 * (F 16)) + 1) f) ((3 * (F 16)) + 2) n).length = (A 102).length; simp only [wr_len])), hR0.2.1, hR0.2.2.1, hR0.2.2.2.1, hR0.2.2.2.2.1, ⟨LEAS_add hR0.2.2.2.2.2.1.1 (hL 80 (by decide)) (hL 81 (by decide)) (hL 82 (by decide)) (hL 83 (by decide)) (hL 102 (by decide)) (by omega) ⟨by omega, by omega⟩ ⟨by omega, by omega⟩ (by decide), hR0.2.2.2.2.2.1.2⟩, hR0.2.2.2.2.2.2.1, hR0.2.2.2.2.2.2.2.1, hR0.2.2.2.2.2.2.2.2.1, (REFU_c hR0.2.2.2.2.2.2.2.2.2)⟩⟩
                    · refine R_s (P := True) (f' := (141, [some (vR 1), some (vI t), some (vI f), some (vI n), some (vI j), some (vI 1), some (vI 1)], [vI 1, vI n, vI f, vI t, vR 79], LAY (shA A) (shF F), 0, 0)) hc83 9 rfl trivial ?_
                      refine R_cv hc83 rfl rfl ?_ (fun r G h => h)
                      refine R_s (P := (0 ≤ F 16 ∧ F 16 < ((A 80).length : Int)) ∧ (0 ≤ F 16 ∧ F 16 < ((A 81).length : Int)) ∧ (0 ≤ F 16 ∧ F 16 < ((A 82).length : Int)) ∧ ((0 ≤ F 16 ∧ F 16 < ((A 83).length : Int)) ∧ (1 = 0 ∨ 1 = 1)) ∧ inI ((F 16) + 1) ∧ True) (f' := (51, [some (vR 79), some (vI t), some (vI f), some (vI n), some (vI 1), some (vI (F 16))], [vI (F 16)], LAY (u (u (u (u (shA A) 80 (wr (A 80) (F 16) t)) 81 (wr (A 81) (F 16) f)) 82 (wr (A 82) (F 16) n)) 83 (wr (A 83) (F 16) 1)) (u (shF F) 16 ((F 16) + 1)), 0, 0)) hc22 30 rfl ⟨⟨by omega, by omega⟩, ⟨by omega, by omega⟩, ⟨by omega, by omega⟩, ⟨⟨by omega, by omega⟩, by omega⟩, ⟨by omega, by omega⟩, trivial⟩ ?_
                      refine R_reti hc22 rfl rfl ?_
                      refine R_s (f' := (144, [some (vR 1), some (vI t), some (vI f), some (vI n), some (vI j), some (vI 1), some (vI 1)], [vI (F 16)], LAY (u (u (u (u (shA A) 80 (wr (A 80) (F 16) t)) 81 (wr (A 81) (F 16) f)) 82 (wr (A 82) (F 16) n)) 83 (wr (A 83) (F 16) 1)) (u (shF F) 16 ((F 16) + 1)), 0, 0)) hc83 0 rfl trivial ?_
                      refine R_reti hc83 rfl rfl ⟨⟨_, rfl⟩, ⟨_, _, rfl, rfl⟩, ?_⟩
                      refine R_s (P := True) (f' := (2, [some (vR 88), some (vI t), some (vI f), some (vI n), some (vI j), none], [vI t, vR 88], LAY (u (u (u (u (shA A) 80 (wr (A 80) (F 16) t)) 81 (wr (A 81) (F 16) f)) 82 (wr (A 82) (F 16) n)) 83 (wr (A 83) (F 16) 1)) (u (shF F) 16 ((F 16) + 1)), 0, 0)) hc158 2 rfl trivial ?_
                      refine R_cv hc158 rfl rfl ?_ (fun r G h => h)
                      refine R_s (P := inI ((F 4) - 1) ∧ True) (f' := (8, [some (vR 88), some (vI t)], [vI ((F 4) - 1), vI 0, vI t], LAY (u (u (u (u (shA A) 80 (wr (A 80) (F 16) t)) 81 (wr (A 81) (F 16) f)) 82 (wr (A 82) (F 16) n)) 83 (wr (A 83) (F 16) 1)) (u (shF F) 16 ((F 16) + 1)), 0, 0)) hc107 6 rfl ⟨⟨by omega, by omega⟩, trivial⟩ ?_
                      refine R_cs hc107 rfl rfl ?_ (fun r G h => h)
                      refine R_s (P := True) (f' := (2, [some (vI t), some (vI 0), some (vI ((F 4) - 1))], [vI 0, vI t], LAY (u (u (u (u (shA A) 80 (wr (A 80) (F 16) t)) 81 (wr (A 81) (F 16) f)) 82 (wr (A 82) (F 16) n)) 83 (wr (A 83) (F 16) 1)) (u (shF F) 16 ((F 16) + 1)), 0, 0)) hc104 2 rfl trivial ?_
                      refine R_ic (t := 14) hc104 rfl rfl (fun (z : t < 0) => absurd z (by omega)) (fun (_ : ¬ (t < 0)) => ?_)
                      refine R_s (P := True) (f' := (7, [some (vI t), some (vI 0), some (vI ((F 4) - 1))], [vI ((F 4) - 1), vI t], LAY (u (u (u (u (shA A) 80 (wr (A 80) (F 16) t)) 81 (wr (A 81) (F 16) f)) 82 (wr (A 82) (F 16) n)) 83 (wr (A 83) (F 16) 1)) (u (shF F) 16 ((F 16) + 1)), 0, 0)) hc104 2 rfl trivial ?_
                      refine R_ic (t := 14) hc104 rfl rfl (fun (z : (F 4) - 1 < t) => absurd z (by omega)) (fun (_ : ¬ ((F 4) - 1 < t)) => ?_)
                      refine R_s (P := True) (f' := (15, [some (vI t), some (vI 0), some (vI ((F 4) - 1))], [vI 1], LAY (u (u (u (u (shA A) 80 (wr (A 80) (F 16) t)) 81 (wr (A 81) (F 16) f)) 82 (wr (A 82) (F 16) n)) 83 (wr (A 83) (F 16) 1)) (u (shF F) 16 ((F 16) + 1)), 0, 0)) hc104 2 rfl trivial ?_
                      refine R_retz hc104 rfl rfl (Or.inr rfl) ?_
                      refine R_s (f' := (11, [some (vR 88), some (vI t)], [vI 1], LAY (u (u (u (u (shA A) 80 (wr (A 80) (F 16) t)) 81 (wr (A 81) (F 16) f)) 82 (wr (A 82) (F 16) n)) 83 (wr (A 83) (F 16) 1)) (u (shF F) 16 ((F 16) + 1)), 0, 0)) hc107 0 rfl trivial ?_
                      refine R_retz hc107 rfl rfl (Or.inr rfl) ?_
                      refine R_s (f' := (5, [some (vR 88), some (vI t), some (vI f), some (vI n), some (vI j), none], [vI 1], LAY (u (u (u (u (shA A) 80 (wr (A 80) (F 16) t)) 81 (wr (A 81) (F 16) f)) 82 (wr (A 82) (F 16) n)) 83 (wr (A 83) (F 16) 1)) (u (shF F) 16 ((F 16) + 1)), 0, 0)) hc158 0 rfl trivial ?_
                      refine R_if (t := 15) hc158 rfl rfl (fun (_ : ¬ 1 = 0) => ?_) (fun (z : ¬ (¬ 1 = 0)) => absurd (by decide) z)
                      refine R_s (P := True) (f' := (23, [some (vR 88), some (vI t), some (vI f), some (vI n), some (vI j), none], [vI 700, vI (F 2), vI f], LAY (u (u (u (u (shA A) 80 (wr (A 80) (F 16) t)) 81 (wr (A 81) (F 16) f)) 82 (wr (A 82) (F 16) n)) 83 (wr (A 83) (F 16) 1)) (u (shF F) 16 ((F 16) + 1)), 0, 0)) hc158 4 rfl trivial ?_
                      refine R_cs hc158 rfl rfl ?_ (fun r G h => h)
                      refine R_s (P := True) (f' := (2, [some (vI f), some (vI (F 2)), some (vI 700)], [vI (F 2), vI f], LAY (u (u (u (u (shA A) 80 (wr (A 80) (F 16) t)) 81 (wr (A 81) (F 16) f)) 82 (wr (A 82) (F 16) n)) 83 (wr (A 83) (F 16) 1)) (u (shF F) 16 ((F 16) + 1)), 0, 0)) hc104 2 rfl trivial ?_
                      refine R_ic (t := 14) hc104 rfl rfl (fun (z : f < F 2) => absurd z (by omega)) (fun (_ : ¬ (f < F 2)) => ?_)
                      refine R_s (P := True) (f' := (7, [some (vI f), some (vI (F 2)), some (vI 700)], [vI 700, vI f], LAY (u (u (u (u (shA A) 80 (wr (A 80) (F 16) t)) 81 (wr (A 81) (F 16) f)) 82 (wr (A 82) (F 16) n)) 83 (wr (A 83) (F 16) 1)) (u (shF F) 16 ((F 16) + 1)), 0, 0)) hc104 2 rfl trivial ?_
                      refine R_ic (t := 14) hc104 rfl rfl (fun (z : 700 < f) => absurd z (by omega)) (fun (_ : ¬ (700 < f)) => ?_)
                      refine R_s (P := True) (f' := (15, [some (vI f), some (vI (F 2)), some (vI 700)], [vI 1], LAY (u (u (u (u (shA A) 80 (wr (A 80) (F 16) t)) 81 (wr (A 81) (F 16) f)) 82 (wr (A 82) (F 16) n)) 83 (wr (A 83) (F 16) 1)) (u (shF F) 16 ((F 16) + 1)), 0, 0)) hc104 2 rfl trivial ?_
                      refine R_retz hc104 rfl rfl (Or.inr rfl) ?_
                      refine R_s (f' := (26, [some (vR 88), some (vI t), some (vI f), some (vI n), some (vI j), none], [vI 1], LAY (u (u (u (u (shA A) 80 (wr (A 80) (F 16) t)) 81 (wr (A 81) (F 16) f)) 82 (wr (A 82) (F 16) n)) 83 (wr (A 83) (F 16) 1)) (u (shF F) 16 ((F 16) + 1)), 0, 0)) hc158 0 rfl trivial ?_
                      refine R_if (t := 39) hc158 rfl rfl (fun (z : 1 = 0) => absurd z (by decide)) (fun (_ : ¬ (1 = 0)) => ?_)
                      refine R_s (P := True) (f' := (33, [some (vR 88), some (vI t), some (vI f), some (vI n), some (vI j), none], [vI 99, vI 1, vI n], LAY (u (u (u (u (shA A) 80 (wr (A 80) (F 16) t)) 81 (wr (A 81) (F 16) f)) 82 (wr (A 82) (F 16) n)) 83 (wr (A 83) (F 16) 1)) (u (shF F) 16 ((F 16) + 1)), 0, 0)) hc158 3 rfl trivial ?_
                      refine R_cs hc158 rfl rfl ?_ (fun r G h => h)
                      refine R_s (P := True) (f' := (2, [some (vI n), some (vI 1), some (vI 99)], [vI 1, vI n], LAY (u (u (u (u (shA A) 80 (wr (A 80) (F 16) t)) 81 (wr (A 81) (F 16) f)) 82 (wr (A 82) (F 16) n)) 83 (wr (A 83) (F 16) 1)) (u (shF F) 16 ((F 16) + 1)), 0, 0)) hc104 2 rfl trivial ?_
                      refine R_ic (t := 14) hc104 rfl rfl (fun (z : n < 1) => absurd z (by omega)) (fun (_ : ¬ (n < 1)) => ?_)
                      refine R_s (P := True) (f' := (7, [some (vI n), some (vI 1), some (vI 99)], [vI 99, vI n], LAY (u (u (u (u (shA A) 80 (wr (A 80) (F 16) t)) 81 (wr (A 81) (F 16) f)) 82 (wr (A 82) (F 16) n)) 83 (wr (A 83) (F 16) 1)) (u (shF F) 16 ((F 16) + 1)), 0, 0)) hc104 2 rfl trivial ?_
                      refine R_ic (t := 14) hc104 rfl rfl (fun (z : 99 < n) => absurd z (by omega)) (fun (_ : ¬ (99 < n)) => ?_)
                      refine R_s (P := True) (f' := (15, [some (vI n), some (vI 1), some (vI 99)], [vI 1], LAY (u (u (u (u (shA A) 80 (wr (A 80) (F 16) t)) 81 (wr (A 81) (F 16) f)) 82 (wr (A 82) (F 16) n)) 83 (wr (A 83) (F 16) 1)) (u (shF F) 16 ((F 16) + 1)), 0, 0)) hc104 2 rfl trivial ?_
                      refine R_retz hc104 rfl rfl (Or.inr rfl) ?_
                      refine R_s (f' := (36, [some (vR 88), some (vI t), some (vI f), some (vI n), some (vI j), none], [vI 1], LAY (u (u (u (u (shA A) 80 (wr (A 80) (F 16) t)) 81 (wr (A 81) (F 16) f)) 82 (wr (A 82) (F 16) n)) 83 (wr (A 83) (F 16) 1)) (u (shF F) 16 ((F 16) + 1)), 0, 0)) hc158 0 rfl trivial ?_
                      refine R_if (t := 46) hc158 rfl rfl (fun (_ : ¬ 1 = 0) => ?_) (fun (z : ¬ (¬ 1 = 0)) => absurd (by decide) z)
                      refine R_s (P := True) (f' := (52, [some (vR 88), some (vI t), some (vI f), some (vI n), some (vI j), none], [vI 30, vI (F 16)], LAY (u (u (u (u (shA A) 80 (wr (A 80) (F 16) t)) 81 (wr (A 81) (F 16) f)) 82 (wr (A 82) (F 16) n)) 83 (wr (A 83) (F 16) 1)) (u (shF F) 16 ((F 16) + 1)), 0, 0)) hc158 3 rfl trivial ?_
                      refine R_ic (t := 62) hc158 rfl rfl (fun (_ : ¬ F 16 = 30) => ?_) (fun (z : ¬ (¬ F 16 = 30)) => absurd (show ¬ F 16 = 30 by omega) z)
                      refine R_s (P := inI (f + n) ∧ inI ((f + n) - 1) ∧ True) (f' := (70, [some (vR 88), some (vI t), some (vI f), some (vI n), some (vI j), none], [vI ((f + n) - 1), vI f, vI t, vR 88], LAY (u (u (u (u (shA A) 80 (wr (A 80) (F 16) t)) 81 (wr (A 81) (F 16) f)) 82 (wr (A 82) (F 16) n)) 83 (wr (A 83) (F 16) 1)) (u (shF F) 16 ((F 16) + 1)), 0, 0)) hc158 8 rfl ⟨⟨by omega, by omega⟩, ⟨by omega, by omega⟩, trivial⟩ ?_
                      refine R_cv hc158 rfl rfl (l_isLeased (A := (u (u (u (u (shA A) 80 (wr (A 80) (F 16) t)) 81 (wr (A 81) (F 16) f)) 82 (wr (A 82) (F 16) n)) 83 (wr (A 83) (F 16) 1))) (F := (u (shF F) 16 ((F 16) + 1))) (T := A 80) (Fr := A 81) (Y := A 82) ⟨le1, le2⟩ (hL 102 (by decide)) (hL 83 (by decide)) (fun i (hi : (i : Int) < F 16) => hLE.1.2.2.1 i (by omega) hi) (fun i (hi : (i : Int) < F 16) => hLE.1.2.2.2 i (by omega) (by omega))) (fun r G9 hp9 => ?_)
                      obtain ⟨e1, rfl⟩ := hp9
                      have e2 : r = some (vI gv) := by
                        rw [show f + n - 1 + 1 = f + n by omega] at e1
                        rw [hgv, hcf]
                        exact e1
                      clear e1
                      subst e2
                      refine R_s (f' := (73, [some (vR 88), some (vI t), some (vI f), some (vI n), some (vI j), none], [vI gv], LAY (u (u (u (u (shA A) 80 (wr (A 80) (F 16) t)) 81 (wr (A 81) (F 16) f)) 82 (wr (A 82) (F 16) n)) 83 (wr (A 83) (F 16) 1)) (u (shF F) 16 ((F 16) + 1)), 0, 0)) hc158 0 rfl trivial ?_
                      refine R_if (t := 102) hc158 rfl rfl (fun (c129 : ¬ gv = 0) => ?_) (fun (c129 : ¬ (¬ gv = 0)) => ?_)
                      · refine R_s (P := inI (3 * (F 16)) ∧ (0 ≤ 3 * (F 16) ∧ 3 * (F 16) < ((A 102).length : Int)) ∧ inI (3 * (F 16)) ∧ inI ((3 * (F 16)) + 1) ∧ (0 ≤ (3 * (F 16)) + 1 ∧ (3 * (F 16)) + 1 < ((wr (A 102) (3 * (F 16)) t).length : Int)) ∧ inI (3 * (F 16)) ∧ inI ((3 * (F 16)) + 2) ∧ (0 ≤ (3 * (F 16)) + 2 ∧ (3 * (F 16)) + 2 < ((wr (wr (A 102) (3 * (F 16)) t) ((3 * (F 16)) + 1) f).length : Int)) ∧ ((0 ≤ F 16 ∧ F 16 < ((A 83).length : Int)) ∧ (0 = 0 ∨ 0 = 1)) ∧ inI ((F 16) + 1) ∧ inI (((F 16) + 1) - 1) ∧ True) (f' := (172, [some (vR 88), some (vI t), some (vI f), some (vI n), some (vI j), some (vI 0)], [vI (((F 16) + 1) - 1)], LAY (u (u (u (u (u (u (shA A) 80 (wr (A 80) (F 16) t)) 81 (wr (A 81) (F 16) f)) 82 (wr (A 82) (F 16) n)) 83 (wr (A 83) (F 16) 1)) 102 (wr (wr (wr (A 102) (3 * (F 16)) t) ((3 * (F 16)) + 1) f) ((3 * (F 16)) + 2) n)) 103 (wr (A 83) (F 16) 0)) (u (u (shF F) 16 ((F 16) + 1)) 22 ((F 16) + 1)), 0, 0)) hc158 46 rfl ⟨⟨by omega, by omega⟩, ⟨by omega, by omega⟩, ⟨by omega, by omega⟩, ⟨by omega, by omega⟩, ⟨by omega, by simp only [wr_len]; omega⟩, ⟨by omega, by omega⟩, ⟨by omega, by omega⟩, ⟨by omega, by simp only [wr_len]; omega⟩, ⟨⟨by omega, by omega⟩, by omega⟩, ⟨by omega, by omega⟩, ⟨by omega, by omega⟩, trivial⟩ ?_
                        refine R_reti hc158 rfl rfl ?_
                        first
                          | (exfalso; omega; done)
                          | exact ⟨(by rw [show ((F 16) + 1) - 1 = F 16 by omega]), (u (u (u (u (u A 80 (wr (A 80) (F 16) t)) 81 (wr (A 81) (F 16) f)) 82 (wr (A 82) (F 16) n)) 83 (wr (A 83) (F 16) 1)) 102 (wr (wr (wr (A 102) (3 * (F 16)) t) ((3 * (F 16)) + 1) f) ((3 * (F 16)) + 2) n)), (u F 16 ((F 16) + 1)), rfl, rfl, ⟨(LENS_u (LENS_u (LENS_u (LENS_u (LENS_u hL (by show (wr (A 80) (F 16) t).length = (A 80).length; simp only [wr_len])) (by show (wr (A 81) (F 16) f).length = (A 81).length; simp only [wr_len])) (by show (wr (A 82) (F 16) n).length = (A 82).length; simp only [wr_len])) (by show (wr (A 83) (F 16) 1).length = (A 83).length; simp only [wr_len])) (by show (wr (wr (wr (A 102) (3 * (F 16)) t) ((3 * (F 16)) + 1) f) ((3 * (F 16)) + 2) n).length = (A 102).length; simp only [wr_len])), hR0.2.1, hR0.2.2.1, hR0.2.2.2.1, hR0.2.2.2.2.1, ⟨LEAS_add hR0.2.2.2.2.2.1.1 (hL 80 (by decide)) (hL 81 (by decide)) (hL 82 (by decide)) (hL 83 (by decide)) (hL 102 (by decide)) (by omega) ⟨by omega, by omega⟩ ⟨by omega, by omega⟩ (by decide), hR0.2.2.2.2.2.1.2⟩, hR0.2.2.2.2.2.2.1, hR0.2.2.2.2.2.2.2.1, hR0.2.2.2.2.2.2.2.2.1, (REFU_c hR0.2.2.2.2.2.2.2.2.2)⟩⟩
                      · refine R_s (P := (0 ≤ t ∧ t < ((A 15).length : Int)) ∧ True) (f' := (82, [some (vR 88), some (vI t), some (vI f), some (vI n), some (vI j), none], [vI (rd (A 15) t)], LAY (u (u (u (u (shA A) 80 (wr (A 80) (F 16) t)) 81 (wr (A 81) (F 16) f)) 82 (wr (A 82) (F 16) n)) 83 (wr (A 83) (F 16) 1)) (u (shF F) 16 ((F 16) + 1)), 0, 0)) hc158 4 rfl ⟨⟨by omega, by omega⟩, trivial⟩ ?_
                        refine R_if (t := 102) hc158 rfl rfl (fun (z : ¬ rd (A 15) t = 0) => absurd z (by omega)) (fun (_ : ¬ (¬ rd (A 15) t = 0)) => ?_)
                        refine R_s (P := True) (f' := (90, [some (vR 88), some (vI t), some (vI f), some (vI n), some (vI j), none], [vI (F 17), vI n], LAY (u (u (u (u (shA A) 80 (wr (A 80) (F 16) t)) 81 (wr (A 81) (F 16) f)) 82 (wr (A 82) (F 16) n)) 83 (wr (A 83) (F 16) 1)) (u (shF F) 16 ((F 16) + 1)), 0, 0)) hc158 3 rfl trivial ?_
                        refine R_ic (t := 98) hc158 rfl rfl (fun (c131 : n ≤ F 17) => ?_) (fun (c131 : ¬ (n ≤ F 17)) => ?_)
                        · refine R_s (P := inI (3 * (F 16)) ∧ (0 ≤ 3 * (F 16) ∧ 3 * (F 16) < ((A 102).length : Int)) ∧ inI (3 * (F 16)) ∧ inI ((3 * (F 16)) + 1) ∧ (0 ≤ (3 * (F 16)) + 1 ∧ (3 * (F 16)) + 1 < ((wr (A 102) (3 * (F 16)) t).length : Int)) ∧ inI (3 * (F 16)) ∧ inI ((3 * (F 16)) + 2) ∧ (0 ≤ (3 * (F 16)) + 2 ∧ (3 * (F 16)) + 2 < ((wr (wr (A 102) (3 * (F 16)) t) ((3 * (F 16)) + 1) f).length : Int)) ∧ ((0 ≤ F 16 ∧ F 16 < ((A 83).length : Int)) ∧ (1 = 0 ∨ 1 = 1)) ∧ inI ((F 16) + 1) ∧ inI (((F 16) + 1) - 1) ∧ True) (f' := (172, [some (vR 88), some (vI t), some (vI f), some (vI n), some (vI j), some (vI 1)], [vI (((F 16) + 1) - 1)], LAY (u (u (u (u (u (u (shA A) 80 (wr (A 80) (F 16) t)) 81 (wr (A 81) (F 16) f)) 82 (wr (A 82) (F 16) n)) 83 (wr (A 83) (F 16) 1)) 102 (wr (wr (wr (A 102) (3 * (F 16)) t) ((3 * (F 16)) + 1) f) ((3 * (F 16)) + 2) n)) 103 (wr (A 83) (F 16) 1)) (u (u (shF F) 16 ((F 16) + 1)) 22 ((F 16) + 1)), 0, 0)) hc158 47 rfl ⟨⟨by omega, by omega⟩, ⟨by omega, by omega⟩, ⟨by omega, by omega⟩, ⟨by omega, by omega⟩, ⟨by omega, by simp only [wr_len]; omega⟩, ⟨by omega, by omega⟩, ⟨by omega, by omega⟩, ⟨by omega, by simp only [wr_len]; omega⟩, ⟨⟨by omega, by omega⟩, by omega⟩, ⟨by omega, by omega⟩, ⟨by omega, by omega⟩, trivial⟩ ?_
                          refine R_reti hc158 rfl rfl ?_
                          first
                            | (exfalso; omega; done)
                            | exact ⟨(by rw [show ((F 16) + 1) - 1 = F 16 by omega]), (u (u (u (u (u A 80 (wr (A 80) (F 16) t)) 81 (wr (A 81) (F 16) f)) 82 (wr (A 82) (F 16) n)) 83 (wr (A 83) (F 16) 1)) 102 (wr (wr (wr (A 102) (3 * (F 16)) t) ((3 * (F 16)) + 1) f) ((3 * (F 16)) + 2) n)), (u F 16 ((F 16) + 1)), rfl, rfl, ⟨(LENS_u (LENS_u (LENS_u (LENS_u (LENS_u hL (by show (wr (A 80) (F 16) t).length = (A 80).length; simp only [wr_len])) (by show (wr (A 81) (F 16) f).length = (A 81).length; simp only [wr_len])) (by show (wr (A 82) (F 16) n).length = (A 82).length; simp only [wr_len])) (by show (wr (A 83) (F 16) 1).length = (A 83).length; simp only [wr_len])) (by show (wr (wr (wr (A 102) (3 * (F 16)) t) ((3 * (F 16)) + 1) f) ((3 * (F 16)) + 2) n).length = (A 102).length; simp only [wr_len])), hR0.2.1, hR0.2.2.1, hR0.2.2.2.1, hR0.2.2.2.2.1, ⟨LEAS_add hR0.2.2.2.2.2.1.1 (hL 80 (by decide)) (hL 81 (by decide)) (hL 82 (by decide)) (hL 83 (by decide)) (hL 102 (by decide)) (by omega) ⟨by omega, by omega⟩ ⟨by omega, by omega⟩ (by decide), hR0.2.2.2.2.2.1.2⟩, hR0.2.2.2.2.2.2.1, hR0.2.2.2.2.2.2.2.1, hR0.2.2.2.2.2.2.2.2.1, (REFU_c hR0.2.2.2.2.2.2.2.2.2)⟩⟩
                        · refine R_s (P := True) (f' := (95, [some (vR 88), some (vI t), some (vI f), some (vI n), some (vI j), none], [vI j], LAY (u (u (u (u (shA A) 80 (wr (A 80) (F 16) t)) 81 (wr (A 81) (F 16) f)) 82 (wr (A 82) (F 16) n)) 83 (wr (A 83) (F 16) 1)) (u (shF F) 16 ((F 16) + 1)), 0, 0)) hc158 1 rfl trivial ?_
                          refine R_if (t := 102) hc158 rfl rfl (fun (z : j = 0) => absurd z (by omega)) (fun (_ : ¬ (j = 0)) => ?_)
                          refine R_s (P := inI (3 * (F 16)) ∧ (0 ≤ 3 * (F 16) ∧ 3 * (F 16) < ((A 102).length : Int)) ∧ inI (3 * (F 16)) ∧ inI ((3 * (F 16)) + 1) ∧ (0 ≤ (3 * (F 16)) + 1 ∧ (3 * (F 16)) + 1 < ((wr (A 102) (3 * (F 16)) t).length : Int)) ∧ inI (3 * (F 16)) ∧ inI ((3 * (F 16)) + 2) ∧ (0 ≤ (3 * (F 16)) + 2 ∧ (3 * (F 16)) + 2 < ((wr (wr (A 102) (3 * (F 16)) t) ((3 * (F 16)) + 1) f).length : Int)) ∧ ((0 ≤ F 16 ∧ F 16 < ((A 83).length : Int)) ∧ (1 = 0 ∨ 1 = 1)) ∧ inI ((F 16) + 1) ∧ inI (((F 16) + 1) - 1) ∧ True) (f' := (172, [some (vR 88), some (vI t), some (vI f), some (vI n), some (vI j), some (vI 1)], [vI (((F 16) + 1) - 1)], LAY (u (u (u (u (u (u (shA A) 80 (wr (A 80) (F 16) t)) 81 (wr (A 81) (F 16) f)) 82 (wr (A 82) (F 16) n)) 83 (wr (A 83) (F 16) 1)) 102 (wr (wr (wr (A 102) (3 * (F 16)) t) ((3 * (F 16)) + 1) f) ((3 * (F 16)) + 2) n)) 103 (wr (A 83) (F 16) 1)) (u (u (shF F) 16 ((F 16) + 1)) 22 ((F 16) + 1)), 0, 0)) hc158 47 rfl ⟨⟨by omega, by omega⟩, ⟨by omega, by omega⟩, ⟨by omega, by omega⟩, ⟨by omega, by omega⟩, ⟨by omega, by simp only [wr_len]; omega⟩, ⟨by omega, by omega⟩, ⟨by omega, by omega⟩, ⟨by omega, by simp only [wr_len]; omega⟩, ⟨⟨by omega, by omega⟩, by omega⟩, ⟨by omega, by omega⟩, ⟨by omega, by omega⟩, trivial⟩ ?_
                          refine R_reti hc158 rfl rfl ?_
                          first
                            | (exfalso; omega; done)
                            | exact ⟨(by rw [show ((F 16) + 1) - 1 = F 16 by omega]), (u (u (u (u (u A 80 (wr (A 80) (F 16) t)) 81 (wr (A 81) (F 16) f)) 82 (wr (A 82) (F 16) n)) 83 (wr (A 83) (F 16) 1)) 102 (wr (wr (wr (A 102) (3 * (F 16)) t) ((3 * (F 16)) + 1) f) ((3 * (F 16)) + 2) n)), (u F 16 ((F 16) + 1)), rfl, rfl, ⟨(LENS_u (LENS_u (LENS_u (LENS_u (LENS_u hL (by show (wr (A 80) (F 16) t).length = (A 80).length; simp only [wr_len])) (by show (wr (A 81) (F 16) f).length = (A 81).length; simp only [wr_len])) (by show (wr (A 82) (F 16) n).length = (A 82).length; simp only [wr_len])) (by show (wr (A 83) (F 16) 1).length = (A 83).length; simp only [wr_len])) (by show (wr (wr (wr (A 102) (3 * (F 16)) t) ((3 * (F 16)) + 1) f) ((3 * (F 16)) + 2) n).length = (A 102).length; simp only [wr_len])), hR0.2.1, hR0.2.2.1, hR0.2.2.2.1, hR0.2.2.2.2.1, ⟨LEAS_add hR0.2.2.2.2.2.1.1 (hL 80 (by decide)) (hL 81 (by decide)) (hL 82 (by decide)) (hL 83 (by decide)) (hL 102 (by decide)) (by omega) ⟨by omega, by omega⟩ ⟨by omega, by omega⟩ (by decide), hR0.2.2.2.2.2.1.2⟩, hR0.2.2.2.2.2.2.1, hR0.2.2.2.2.2.2.2.1, hR0.2.2.2.2.2.2.2.2.1, (REFU_c hR0.2.2.2.2.2.2.2.2.2)⟩⟩
                · refine R_s (P := True) (f' := (83, [some (vR 1), some (vI t), some (vI f), some (vI n), some (vI j), none, none], [vI (F 17), vI n], LAY (shA A) (shF F), 0, 0)) hc83 4 rfl trivial ?_
                  refine R_ic (t := 90) hc83 rfl rfl (fun (c19 : F 17 < n) => ?_) (fun (c19 : ¬ (F 17 < n)) => ?_)
                  · refine R_s (P := True) (f' := (95, [some (vR 1), some (vI t), some (vI f), some (vI n), some (vI j), some (vI 0), none], [vI 0], LAY (shA A) (shF F), 0, 0)) hc83 3 rfl trivial ?_
                    refine R_if (t := 129) hc83 rfl rfl (fun (_ : 0 = 0) => ?_) (fun (z : ¬ (0 = 0)) => absurd (by decide) z)
                    refine R_s (P := True) (f' := (141, [some (vR 1), some (vI t), some (vI f), some (vI n), some (vI j), some (vI 0), some (vI 0)], [vI 0, vI n, vI f, vI t, vR 79], LAY (shA A) (shF F), 0, 0)) hc83 8 rfl trivial ?_
                    refine R_cv hc83 rfl rfl ?_ (fun r G h => h)
                    refine R_s (P := (0 ≤ F 16 ∧ F 16 < ((A 80).length : Int)) ∧ (0 ≤ F 16 ∧ F 16 < ((A 81).length : Int)) ∧ (0 ≤ F 16 ∧ F 16 < ((A 82).length : Int)) ∧ ((0 ≤ F 16 ∧ F 16 < ((A 83).length : Int)) ∧ (0 = 0 ∨ 0 = 1)) ∧ inI ((F 16) + 1) ∧ True) (f' := (51, [some (vR 79), some (vI t), some (vI f), some (vI n), some (vI 0), some (vI (F 16))], [vI (F 16)], LAY (u (u (u (u (shA A) 80 (wr (A 80) (F 16) t)) 81 (wr (A 81) (F 16) f)) 82 (wr (A 82) (F 16) n)) 83 (wr (A 83) (F 16) 0)) (u (shF F) 16 ((F 16) + 1)), 0, 0)) hc22 30 rfl ⟨⟨by omega, by omega⟩, ⟨by omega, by omega⟩, ⟨by omega, by omega⟩, ⟨⟨by omega, by omega⟩, by omega⟩, ⟨by omega, by omega⟩, trivial⟩ ?_
                    refine R_reti hc22 rfl rfl ?_
                    refine R_s (f' := (144, [some (vR 1), some (vI t), some (vI f), some (vI n), some (vI j), some (vI 0), some (vI 0)], [vI (F 16)], LAY (u (u (u (u (shA A) 80 (wr (A 80) (F 16) t)) 81 (wr (A 81) (F 16) f)) 82 (wr (A 82) (F 16) n)) 83 (wr (A 83) (F 16) 0)) (u (shF F) 16 ((F 16) + 1)), 0, 0)) hc83 0 rfl trivial ?_
                    refine R_reti hc83 rfl rfl ⟨⟨_, rfl⟩, ⟨_, _, rfl, rfl⟩, ?_⟩
                    refine R_s (P := True) (f' := (2, [some (vR 88), some (vI t), some (vI f), some (vI n), some (vI j), none], [vI t, vR 88], LAY (u (u (u (u (shA A) 80 (wr (A 80) (F 16) t)) 81 (wr (A 81) (F 16) f)) 82 (wr (A 82) (F 16) n)) 83 (wr (A 83) (F 16) 0)) (u (shF F) 16 ((F 16) + 1)), 0, 0)) hc158 2 rfl trivial ?_
                    refine R_cv hc158 rfl rfl ?_ (fun r G h => h)
                    refine R_s (P := inI ((F 4) - 1) ∧ True) (f' := (8, [some (vR 88), some (vI t)], [vI ((F 4) - 1), vI 0, vI t], LAY (u (u (u (u (shA A) 80 (wr (A 80) (F 16) t)) 81 (wr (A 81) (F 16) f)) 82 (wr (A 82) (F 16) n)) 83 (wr (A 83) (F 16) 0)) (u (shF F) 16 ((F 16) + 1)), 0, 0)) hc107 6 rfl ⟨⟨by omega, by omega⟩, trivial⟩ ?_
                    refine R_cs hc107 rfl rfl ?_ (fun r G h => h)
                    refine R_s (P := True) (f' := (2, [some (vI t), some (vI 0), some (vI ((F 4) - 1))], [vI 0, vI t], LAY (u (u (u (u (shA A) 80 (wr (A 80) (F 16) t)) 81 (wr (A 81) (F 16) f)) 82 (wr (A 82) (F 16) n)) 83 (wr (A 83) (F 16) 0)) (u (shF F) 16 ((F 16) + 1)), 0, 0)) hc104 2 rfl trivial ?_
                    refine R_ic (t := 14) hc104 rfl rfl (fun (z : t < 0) => absurd z (by omega)) (fun (_ : ¬ (t < 0)) => ?_)
                    refine R_s (P := True) (f' := (7, [some (vI t), some (vI 0), some (vI ((F 4) - 1))], [vI ((F 4) - 1), vI t], LAY (u (u (u (u (shA A) 80 (wr (A 80) (F 16) t)) 81 (wr (A 81) (F 16) f)) 82 (wr (A 82) (F 16) n)) 83 (wr (A 83) (F 16) 0)) (u (shF F) 16 ((F 16) + 1)), 0, 0)) hc104 2 rfl trivial ?_
                    refine R_ic (t := 14) hc104 rfl rfl (fun (z : (F 4) - 1 < t) => absurd z (by omega)) (fun (_ : ¬ ((F 4) - 1 < t)) => ?_)
                    refine R_s (P := True) (f' := (15, [some (vI t), some (vI 0), some (vI ((F 4) - 1))], [vI 1], LAY (u (u (u (u (shA A) 80 (wr (A 80) (F 16) t)) 81 (wr (A 81) (F 16) f)) 82 (wr (A 82) (F 16) n)) 83 (wr (A 83) (F 16) 0)) (u (shF F) 16 ((F 16) + 1)), 0, 0)) hc104 2 rfl trivial ?_
                    refine R_retz hc104 rfl rfl (Or.inr rfl) ?_
                    refine R_s (f' := (11, [some (vR 88), some (vI t)], [vI 1], LAY (u (u (u (u (shA A) 80 (wr (A 80) (F 16) t)) 81 (wr (A 81) (F 16) f)) 82 (wr (A 82) (F 16) n)) 83 (wr (A 83) (F 16) 0)) (u (shF F) 16 ((F 16) + 1)), 0, 0)) hc107 0 rfl trivial ?_
                    refine R_retz hc107 rfl rfl (Or.inr rfl) ?_
                    refine R_s (f' := (5, [some (vR 88), some (vI t), some (vI f), some (vI n), some (vI j), none], [vI 1], LAY (u (u (u (u (shA A) 80 (wr (A 80) (F 16) t)) 81 (wr (A 81) (F 16) f)) 82 (wr (A 82) (F 16) n)) 83 (wr (A 83) (F 16) 0)) (u (shF F) 16 ((F 16) + 1)), 0, 0)) hc158 0 rfl trivial ?_
                    refine R_if (t := 15) hc158 rfl rfl (fun (_ : ¬ 1 = 0) => ?_) (fun (z : ¬ (¬ 1 = 0)) => absurd (by decide) z)
                    refine R_s (P := True) (f' := (23, [some (vR 88), some (vI t), some (vI f), some (vI n), some (vI j), none], [vI 700, vI (F 2), vI f], LAY (u (u (u (u (shA A) 80 (wr (A 80) (F 16) t)) 81 (wr (A 81) (F 16) f)) 82 (wr (A 82) (F 16) n)) 83 (wr (A 83) (F 16) 0)) (u (shF F) 16 ((F 16) + 1)), 0, 0)) hc158 4 rfl trivial ?_
                    refine R_cs hc158 rfl rfl ?_ (fun r G h => h)
                    refine R_s (P := True) (f' := (2, [some (vI f), some (vI (F 2)), some (vI 700)], [vI (F 2), vI f], LAY (u (u (u (u (shA A) 80 (wr (A 80) (F 16) t)) 81 (wr (A 81) (F 16) f)) 82 (wr (A 82) (F 16) n)) 83 (wr (A 83) (F 16) 0)) (u (shF F) 16 ((F 16) + 1)), 0, 0)) hc104 2 rfl trivial ?_
                    refine R_ic (t := 14) hc104 rfl rfl (fun (z : f < F 2) => absurd z (by omega)) (fun (_ : ¬ (f < F 2)) => ?_)
                    refine R_s (P := True) (f' := (7, [some (vI f), some (vI (F 2)), some (vI 700)], [vI 700, vI f], LAY (u (u (u (u (shA A) 80 (wr (A 80) (F 16) t)) 81 (wr (A 81) (F 16) f)) 82 (wr (A 82) (F 16) n)) 83 (wr (A 83) (F 16) 0)) (u (shF F) 16 ((F 16) + 1)), 0, 0)) hc104 2 rfl trivial ?_
                    refine R_ic (t := 14) hc104 rfl rfl (fun (z : 700 < f) => absurd z (by omega)) (fun (_ : ¬ (700 < f)) => ?_)
                    refine R_s (P := True) (f' := (15, [some (vI f), some (vI (F 2)), some (vI 700)], [vI 1], LAY (u (u (u (u (shA A) 80 (wr (A 80) (F 16) t)) 81 (wr (A 81) (F 16) f)) 82 (wr (A 82) (F 16) n)) 83 (wr (A 83) (F 16) 0)) (u (shF F) 16 ((F 16) + 1)), 0, 0)) hc104 2 rfl trivial ?_
                    refine R_retz hc104 rfl rfl (Or.inr rfl) ?_
                    refine R_s (f' := (26, [some (vR 88), some (vI t), some (vI f), some (vI n), some (vI j), none], [vI 1], LAY (u (u (u (u (shA A) 80 (wr (A 80) (F 16) t)) 81 (wr (A 81) (F 16) f)) 82 (wr (A 82) (F 16) n)) 83 (wr (A 83) (F 16) 0)) (u (shF F) 16 ((F 16) + 1)), 0, 0)) hc158 0 rfl trivial ?_
                    refine R_if (t := 39) hc158 rfl rfl (fun (z : 1 = 0) => absurd z (by decide)) (fun (_ : ¬ (1 = 0)) => ?_)
                    refine R_s (P := True) (f' := (33, [some (vR 88), some (vI t), some (vI f), some (vI n), some (vI j), none], [vI 99, vI 1, vI n], LAY (u (u (u (u (shA A) 80 (wr (A 80) (F 16) t)) 81 (wr (A 81) (F 16) f)) 82 (wr (A 82) (F 16) n)) 83 (wr (A 83) (F 16) 0)) (u (shF F) 16 ((F 16) + 1)), 0, 0)) hc158 3 rfl trivial ?_
                    refine R_cs hc158 rfl rfl ?_ (fun r G h => h)
                    refine R_s (P := True) (f' := (2, [some (vI n), some (vI 1), some (vI 99)], [vI 1, vI n], LAY (u (u (u (u (shA A) 80 (wr (A 80) (F 16) t)) 81 (wr (A 81) (F 16) f)) 82 (wr (A 82) (F 16) n)) 83 (wr (A 83) (F 16) 0)) (u (shF F) 16 ((F 16) + 1)), 0, 0)) hc104 2 rfl trivial ?_
                    refine R_ic (t := 14) hc104 rfl rfl (fun (z : n < 1) => absurd z (by omega)) (fun (_ : ¬ (n < 1)) => ?_)
                    refine R_s (P := True) (f' := (7, [some (vI n), some (vI 1), some (vI 99)], [vI 99, vI n], LAY (u (u (u (u (shA A) 80 (wr (A 80) (F 16) t)) 81 (wr (A 81) (F 16) f)) 82 (wr (A 82) (F 16) n)) 83 (wr (A 83) (F 16) 0)) (u (shF F) 16 ((F 16) + 1)), 0, 0)) hc104 2 rfl trivial ?_
                    refine R_ic (t := 14) hc104 rfl rfl (fun (z : 99 < n) => absurd z (by omega)) (fun (_ : ¬ (99 < n)) => ?_)
                    refine R_s (P := True) (f' := (15, [some (vI n), some (vI 1), some (vI 99)], [vI 1], LAY (u (u (u (u (shA A) 80 (wr (A 80) (F 16) t)) 81 (wr (A 81) (F 16) f)) 82 (wr (A 82) (F 16) n)) 83 (wr (A 83) (F 16) 0)) (u (shF F) 16 ((F 16) + 1)), 0, 0)) hc104 2 rfl trivial ?_
                    refine R_retz hc104 rfl rfl (Or.inr rfl) ?_
                    refine R_s (f' := (36, [some (vR 88), some (vI t), some (vI f), some (vI n), some (vI j), none], [vI 1], LAY (u (u (u (u (shA A) 80 (wr (A 80) (F 16) t)) 81 (wr (A 81) (F 16) f)) 82 (wr (A 82) (F 16) n)) 83 (wr (A 83) (F 16) 0)) (u (shF F) 16 ((F 16) + 1)), 0, 0)) hc158 0 rfl trivial ?_
                    refine R_if (t := 46) hc158 rfl rfl (fun (_ : ¬ 1 = 0) => ?_) (fun (z : ¬ (¬ 1 = 0)) => absurd (by decide) z)
                    refine R_s (P := True) (f' := (52, [some (vR 88), some (vI t), some (vI f), some (vI n), some (vI j), none], [vI 30, vI (F 16)], LAY (u (u (u (u (shA A) 80 (wr (A 80) (F 16) t)) 81 (wr (A 81) (F 16) f)) 82 (wr (A 82) (F 16) n)) 83 (wr (A 83) (F 16) 0)) (u (shF F) 16 ((F 16) + 1)), 0, 0)) hc158 3 rfl trivial ?_
                    refine R_ic (t := 62) hc158 rfl rfl (fun (_ : ¬ F 16 = 30) => ?_) (fun (z : ¬ (¬ F 16 = 30)) => absurd (show ¬ F 16 = 30 by omega) z)
                    refine R_s (P := inI (f + n) ∧ inI ((f + n) - 1) ∧ True) (f' := (70, [some (vR 88), some (vI t), some (vI f), some (vI n), some (vI j), none], [vI ((f + n) - 1), vI f, vI t, vR 88], LAY (u (u (u (u (shA A) 80 (wr (A 80) (F 16) t)) 81 (wr (A 81) (F 16) f)) 82 (wr (A 82) (F 16) n)) 83 (wr (A 83) (F 16) 0)) (u (shF F) 16 ((F 16) + 1)), 0, 0)) hc158 8 rfl ⟨⟨by omega, by omega⟩, ⟨by omega, by omega⟩, trivial⟩ ?_
                    refine R_cv hc158 rfl rfl (l_isLeased (A := (u (u (u (u (shA A) 80 (wr (A 80) (F 16) t)) 81 (wr (A 81) (F 16) f)) 82 (wr (A 82) (F 16) n)) 83 (wr (A 83) (F 16) 0))) (F := (u (shF F) 16 ((F 16) + 1))) (T := A 80) (Fr := A 81) (Y := A 82) ⟨le1, le2⟩ (hL 102 (by decide)) (hL 83 (by decide)) (fun i (hi : (i : Int) < F 16) => hLE.1.2.2.1 i (by omega) hi) (fun i (hi : (i : Int) < F 16) => hLE.1.2.2.2 i (by omega) (by omega))) (fun r G9 hp9 => ?_)
                    obtain ⟨e1, rfl⟩ := hp9
                    have e2 : r = some (vI gv) := by
                      rw [show f + n - 1 + 1 = f + n by omega] at e1
                      rw [hgv, hcf]
                      exact e1
                    clear e1
                    subst e2
                    refine R_s (f' := (73, [some (vR 88), some (vI t), some (vI f), some (vI n), some (vI j), none], [vI gv], LAY (u (u (u (u (shA A) 80 (wr (A 80) (F 16) t)) 81 (wr (A 81) (F 16) f)) 82 (wr (A 82) (F 16) n)) 83 (wr (A 83) (F 16) 0)) (u (shF F) 16 ((F 16) + 1)), 0, 0)) hc158 0 rfl trivial ?_
                    refine R_if (t := 102) hc158 rfl rfl (fun (c131 : ¬ gv = 0) => ?_) (fun (c131 : ¬ (¬ gv = 0)) => ?_)
                    · refine R_s (P := inI (3 * (F 16)) ∧ (0 ≤ 3 * (F 16) ∧ 3 * (F 16) < ((A 102).length : Int)) ∧ inI (3 * (F 16)) ∧ inI ((3 * (F 16)) + 1) ∧ (0 ≤ (3 * (F 16)) + 1 ∧ (3 * (F 16)) + 1 < ((wr (A 102) (3 * (F 16)) t).length : Int)) ∧ inI (3 * (F 16)) ∧ inI ((3 * (F 16)) + 2) ∧ (0 ≤ (3 * (F 16)) + 2 ∧ (3 * (F 16)) + 2 < ((wr (wr (A 102) (3 * (F 16)) t) ((3 * (F 16)) + 1) f).length : Int)) ∧ ((0 ≤ F 16 ∧ F 16 < ((A 83).length : Int)) ∧ (0 = 0 ∨ 0 = 1)) ∧ inI ((F 16) + 1) ∧ inI (((F 16) + 1) - 1) ∧ True) (f' := (172, [some (vR 88), some (vI t), some (vI f), some (vI n), some (vI j), some (vI 0)], [vI (((F 16) + 1) - 1)], LAY (u (u (u (u (u (u (shA A) 80 (wr (A 80) (F 16) t)) 81 (wr (A 81) (F 16) f)) 82 (wr (A 82) (F 16) n)) 83 (wr (A 83) (F 16) 0)) 102 (wr (wr (wr (A 102) (3 * (F 16)) t) ((3 * (F 16)) + 1) f) ((3 * (F 16)) + 2) n)) 103 (wr (A 83) (F 16) 0)) (u (u (shF F) 16 ((F 16) + 1)) 22 ((F 16) + 1)), 0, 0)) hc158 46 rfl ⟨⟨by omega, by omega⟩, ⟨by omega, by omega⟩, ⟨by omega, by omega⟩, ⟨by omega, by omega⟩, ⟨by omega, by simp only [wr_len]; omega⟩, ⟨by omega, by omega⟩, ⟨by omega, by omega⟩, ⟨by omega, by simp only [wr_len]; omega⟩, ⟨⟨by omega, by omega⟩, by omega⟩, ⟨by omega, by omega⟩, ⟨by omega, by omega⟩, trivial⟩ ?_
                      refine R_reti hc158 rfl rfl ?_
                      first
                        | (exfalso; omega; done)
                        | exact ⟨(by rw [show ((F 16) + 1) - 1 = F 16 by omega]), (u (u (u (u (u A 80 (wr (A 80) (F 16) t)) 81 (wr (A 81) (F 16) f)) 82 (wr (A 82) (F 16) n)) 83 (wr (A 83) (F 16) 0)) 102 (wr (wr (wr (A 102) (3 * (F 16)) t) ((3 * (F 16)) + 1) f) ((3 * (F 16)) + 2) n)), (u F 16 ((F 16) + 1)), rfl, rfl, ⟨(LENS_u (LENS_u (LENS_u (LENS_u (LENS_u hL (by show (wr (A 80) (F 16) t).length = (A 80).length; simp only [wr_len])) (by show (wr (A 81) (F 16) f).length = (A 81).length; simp only [wr_len])) (by show (wr (A 82) (F 16) n).length = (A 82).length; simp only [wr_len])) (by show (wr (A 83) (F 16) 0).length = (A 83).length; simp only [wr_len])) (by show (wr (wr (wr (A 102) (3 * (F 16)) t) ((3 * (F 16)) + 1) f) ((3 * (F 16)) + 2) n).length = (A 102).length; simp only [wr_len])), hR0.2.1, hR0.2.2.1, hR0.2.2.2.1, hR0.2.2.2.2.1, ⟨LEAS_add hR0.2.2.2.2.2.1.1 (hL 80 (by decide)) (hL 81 (by decide)) (hL 82 (by decide)) (hL 83 (by decide)) (hL 102 (by decide)) (by omega) ⟨by omega, by omega⟩ ⟨by omega, by omega⟩ (by decide), hR0.2.2.2.2.2.1.2⟩, hR0.2.2.2.2.2.2.1, hR0.2.2.2.2.2.2.2.1, hR0.2.2.2.2.2.2.2.2.1, (REFU_c hR0.2.2.2.2.2.2.2.2.2)⟩⟩
                    · refine R_s (P := (0 ≤ t ∧ t < ((A 15).length : Int)) ∧ True) (f' := (82, [some (vR 88), some (vI t), some (vI f), some (vI n), some (vI j), none], [vI (rd (A 15) t)], LAY (u (u (u (u (shA A) 80 (wr (A 80) (F 16) t)) 81 (wr (A 81) (F 16) f)) 82 (wr (A 82) (F 16) n)) 83 (wr (A 83) (F 16) 0)) (u (shF F) 16 ((F 16) + 1)), 0, 0)) hc158 4 rfl ⟨⟨by omega, by omega⟩, trivial⟩ ?_
                      refine R_if (t := 102) hc158 rfl rfl (fun (c132 : ¬ rd (A 15) t = 0) => ?_) (fun (c132 : ¬ (¬ rd (A 15) t = 0)) => ?_)
                      · refine R_s (P := inI (3 * (F 16)) ∧ (0 ≤ 3 * (F 16) ∧ 3 * (F 16) < ((A 102).length : Int)) ∧ inI (3 * (F 16)) ∧ inI ((3 * (F 16)) + 1) ∧ (0 ≤ (3 * (F 16)) + 1 ∧ (3 * (F 16)) + 1 < ((wr (A 102) (3 * (F 16)) t).length : Int)) ∧ inI (3 * (F 16)) ∧ inI ((3 * (F 16)) + 2) ∧ (0 ≤ (3 * (F 16)) + 2 ∧ (3 * (F 16)) + 2 < ((wr (wr (A 102) (3 * (F 16)) t) ((3 * (F 16)) + 1) f).length : Int)) ∧ ((0 ≤ F 16 ∧ F 16 < ((A 83).length : Int)) ∧ (0 = 0 ∨ 0 = 1)) ∧ inI ((F 16) + 1) ∧ inI (((F 16) + 1) - 1) ∧ True) (f' := (172, [some (vR 88), some (vI t), some (vI f), some (vI n), some (vI j), some (vI 0)], [vI (((F 16) + 1) - 1)], LAY (u (u (u (u (u (u (shA A) 80 (wr (A 80) (F 16) t)) 81 (wr (A 81) (F 16) f)) 82 (wr (A 82) (F 16) n)) 83 (wr (A 83) (F 16) 0)) 102 (wr (wr (wr (A 102) (3 * (F 16)) t) ((3 * (F 16)) + 1) f) ((3 * (F 16)) + 2) n)) 103 (wr (A 83) (F 16) 0)) (u (u (shF F) 16 ((F 16) + 1)) 22 ((F 16) + 1)), 0, 0)) hc158 46 rfl ⟨⟨by omega, by omega⟩, ⟨by omega, by omega⟩, ⟨by omega, by omega⟩, ⟨by omega, by omega⟩, ⟨by omega, by simp only [wr_len]; omega⟩, ⟨by omega, by omega⟩, ⟨by omega, by omega⟩, ⟨by omega, by simp only [wr_len]; omega⟩, ⟨⟨by omega, by omega⟩, by omega⟩, ⟨by omega, by omega⟩, ⟨by omega, by omega⟩, trivial⟩ ?_
                        refine R_reti hc158 rfl rfl ?_
                        first
                          | (exfalso; omega; done)
                          | exact ⟨(by rw [show ((F 16) + 1) - 1 = F 16 by omega]), (u (u (u (u (u A 80 (wr (A 80) (F 16) t)) 81 (wr (A 81) (F 16) f)) 82 (wr (A 82) (F 16) n)) 83 (wr (A 83) (F 16) 0)) 102 (wr (wr (wr (A 102) (3 * (F 16)) t) ((3 * (F 16)) + 1) f) ((3 * (F 16)) + 2) n)), (u F 16 ((F 16) + 1)), rfl, rfl, ⟨(LENS_u (LENS_u (LENS_u (LENS_u (LENS_u hL (by show (wr (A 80) (F 16) t).length = (A 80).length; simp only [wr_len])) (by show (wr (A 81) (F 16) f).length = (A 81).length; simp only [wr_len])) (by show (wr (A 82) (F 16) n).length = (A 82).length; simp only [wr_len])) (by show (wr (A 83) (F 16) 0).length = (A 83).length; simp only [wr_len])) (by show (wr (wr (wr (A 102) (3 * (F 16)) t) ((3 * (F 16)) + 1) f) ((3 * (F 16)) + 2) n).length = (A 102).length; simp only [wr_len])), hR0.2.1, hR0.2.2.1, hR0.2.2.2.1, hR0.2.2.2.2.1, ⟨LEAS_add hR0.2.2.2.2.2.1.1 (hL 80 (by decide)) (hL 81 (by decide)) (hL 82 (by decide)) (hL 83 (by decide)) (hL 102 (by decide)) (by omega) ⟨by omega, by omega⟩ ⟨by omega, by omega⟩ (by decide), hR0.2.2.2.2.2.1.2⟩, hR0.2.2.2.2.2.2.1, hR0.2.2.2.2.2.2.2.1, hR0.2.2.2.2.2.2.2.2.1, (REFU_c hR0.2.2.2.2.2.2.2.2.2)⟩⟩
                      · refine R_s (P := True) (f' := (90, [some (vR 88), some (vI t), some (vI f), some (vI n), some (vI j), none], [vI (F 17), vI n], LAY (u (u (u (u (shA A) 80 (wr (A 80) (F 16) t)) 81 (wr (A 81) (F 16) f)) 82 (wr (A 82) (F 16) n)) 83 (wr (A 83) (F 16) 0)) (u (shF F) 16 ((F 16) + 1)), 0, 0)) hc158 3 rfl trivial ?_
                        refine R_ic (t := 98) hc158 rfl rfl (fun (z : n ≤ F 17) => absurd z (by omega)) (fun (_ : ¬ (n ≤ F 17)) => ?_)
                        refine R_s (P := True) (f' := (95, [some (vR 88), some (vI t), some (vI f), some (vI n), some (vI j), none], [vI j], LAY (u (u (u (u (shA A) 80 (wr (A 80) (F 16) t)) 81 (wr (A 81) (F 16) f)) 82 (wr (A 82) (F 16) n)) 83 (wr (A 83) (F 16) 0)) (u (shF F) 16 ((F 16) + 1)), 0, 0)) hc158 1 rfl trivial ?_
                        refine R_if (t := 102) hc158 rfl rfl (fun (_ : j = 0) => ?_) (fun (z : ¬ (j = 0)) => absurd (show j = 0 by omega) z)
                        refine R_s (P := inI (3 * (F 16)) ∧ (0 ≤ 3 * (F 16) ∧ 3 * (F 16) < ((A 102).length : Int)) ∧ inI (3 * (F 16)) ∧ inI ((3 * (F 16)) + 1) ∧ (0 ≤ (3 * (F 16)) + 1 ∧ (3 * (F 16)) + 1 < ((wr (A 102) (3 * (F 16)) t).length : Int)) ∧ inI (3 * (F 16)) ∧ inI ((3 * (F 16)) + 2) ∧ (0 ≤ (3 * (F 16)) + 2 ∧ (3 * (F 16)) + 2 < ((wr (wr (A 102) (3 * (F 16)) t) ((3 * (F 16)) + 1) f).length : Int)) ∧ ((0 ≤ F 16 ∧ F 16 < ((A 83).length : Int)) ∧ (0 = 0 ∨ 0 = 1)) ∧ inI ((F 16) + 1) ∧ inI (((F 16) + 1) - 1) ∧ True) (f' := (172, [some (vR 88), some (vI t), some (vI f), some (vI n), some (vI j), some (vI 0)], [vI (((F 16) + 1) - 1)], LAY (u (u (u (u (u (u (shA A) 80 (wr (A 80) (F 16) t)) 81 (wr (A 81) (F 16) f)) 82 (wr (A 82) (F 16) n)) 83 (wr (A 83) (F 16) 0)) 102 (wr (wr (wr (A 102) (3 * (F 16)) t) ((3 * (F 16)) + 1) f) ((3 * (F 16)) + 2) n)) 103 (wr (A 83) (F 16) 0)) (u (u (shF F) 16 ((F 16) + 1)) 22 ((F 16) + 1)), 0, 0)) hc158 46 rfl ⟨⟨by omega, by omega⟩, ⟨by omega, by omega⟩, ⟨by omega, by omega⟩, ⟨by omega, by omega⟩, ⟨by omega, by simp only [wr_len]; omega⟩, ⟨by omega, by omega⟩, ⟨by omega, by omega⟩, ⟨by omega, by simp only [wr_len]; omega⟩, ⟨⟨by omega, by omega⟩, by omega⟩, ⟨by omega, by omega⟩, ⟨by omega, by omega⟩, trivial⟩ ?_
                        refine R_reti hc158 rfl rfl ?_
                        first
                          | (exfalso; omega; done)
                          | exact ⟨(by rw [show ((F 16) + 1) - 1 = F 16 by omega]), (u (u (u (u (u A 80 (wr (A 80) (F 16) t)) 81 (wr (A 81) (F 16) f)) 82 (wr (A 82) (F 16) n)) 83 (wr (A 83) (F 16) 0)) 102 (wr (wr (wr (A 102) (3 * (F 16)) t) ((3 * (F 16)) + 1) f) ((3 * (F 16)) + 2) n)), (u F 16 ((F 16) + 1)), rfl, rfl, ⟨(LENS_u (LENS_u (LENS_u (LENS_u (LENS_u hL (by show (wr (A 80) (F 16) t).length = (A 80).length; simp only [wr_len])) (by show (wr (A 81) (F 16) f).length = (A 81).length; simp only [wr_len])) (by show (wr (A 82) (F 16) n).length = (A 82).length; simp only [wr_len])) (by show (wr (A 83) (F 16) 0).length = (A 83).length; simp only [wr_len])) (by show (wr (wr (wr (A 102) (3 * (F 16)) t) ((3 * (F 16)) + 1) f) ((3 * (F 16)) + 2) n).length = (A 102).length; simp only [wr_len])), hR0.2.1, hR0.2.2.1, hR0.2.2.2.1, hR0.2.2.2.2.1, ⟨LEAS_add hR0.2.2.2.2.2.1.1 (hL 80 (by decide)) (hL 81 (by decide)) (hL 82 (by decide)) (hL 83 (by decide)) (hL 102 (by decide)) (by omega) ⟨by omega, by omega⟩ ⟨by omega, by omega⟩ (by decide), hR0.2.2.2.2.2.1.2⟩, hR0.2.2.2.2.2.2.1, hR0.2.2.2.2.2.2.2.1, hR0.2.2.2.2.2.2.2.2.1, (REFU_c hR0.2.2.2.2.2.2.2.2.2)⟩⟩
                  · refine R_s (P := True) (f' := (95, [some (vR 1), some (vI t), some (vI f), some (vI n), some (vI j), some (vI 1), none], [vI 1], LAY (shA A) (shF F), 0, 0)) hc83 4 rfl trivial ?_
                    refine R_if (t := 129) hc83 rfl rfl (fun (z : 1 = 0) => absurd z (by decide)) (fun (_ : ¬ (1 = 0)) => ?_)
                    refine R_s (P := (0 ≤ t ∧ t < ((A 15).length : Int)) ∧ True) (f' := (107, [some (vR 1), some (vI t), some (vI f), some (vI n), some (vI j), some (vI 1), none], [vI (rd (A 15) t)], LAY (shA A) (shF F), 0, 0)) hc83 5 rfl ⟨⟨by omega, by omega⟩, trivial⟩ ?_
                    refine R_if (t := 129) hc83 rfl rfl (fun (c22 : ¬ rd (A 15) t = 0) => ?_) (fun (c22 : ¬ (¬ rd (A 15) t = 0)) => ?_)
                    · refine R_s (P := True) (f' := (141, [some (vR 1), some (vI t), some (vI f), some (vI n), some (vI j), some (vI 1), some (vI 0)], [vI 0, vI n, vI f, vI t, vR 79], LAY (shA A) (shF F), 0, 0)) hc83 8 rfl trivial ?_
                      refine R_cv hc83 rfl rfl ?_ (fun r G h => h)
                      refine R_s (P := (0 ≤ F 16 ∧ F 16 < ((A 80).length : Int)) ∧ (0 ≤ F 16 ∧ F 16 < ((A 81).length : Int)) ∧ (0 ≤ F 16 ∧ F 16 < ((A 82).length : Int)) ∧ ((0 ≤ F 16 ∧ F 16 < ((A 83).length : Int)) ∧ (0 = 0 ∨ 0 = 1)) ∧ inI ((F 16) + 1) ∧ True) (f' := (51, [some (vR 79), some (vI t), some (vI f), some (vI n), some (vI 0), some (vI (F 16))], [vI (F 16)], LAY (u (u (u (u (shA A) 80 (wr (A 80) (F 16) t)) 81 (wr (A 81) (F 16) f)) 82 (wr (A 82) (F 16) n)) 83 (wr (A 83) (F 16) 0)) (u (shF F) 16 ((F 16) + 1)), 0, 0)) hc22 30 rfl ⟨⟨by omega, by omega⟩, ⟨by omega, by omega⟩, ⟨by omega, by omega⟩, ⟨⟨by omega, by omega⟩, by omega⟩, ⟨by omega, by omega⟩, trivial⟩ ?_
                      refine R_reti hc22 rfl rfl ?_
                      refine R_s (f' := (144, [some (vR 1), some (vI t), some (vI f), some (vI n), some (vI j), some (vI 1), some (vI 0)], [vI (F 16)], LAY (u (u (u (u (shA A) 80 (wr (A 80) (F 16) t)) 81 (wr (A 81) (F 16) f)) 82 (wr (A 82) (F 16) n)) 83 (wr (A 83) (F 16) 0)) (u (shF F) 16 ((F 16) + 1)), 0, 0)) hc83 0 rfl trivial ?_
                      refine R_reti hc83 rfl rfl ⟨⟨_, rfl⟩, ⟨_, _, rfl, rfl⟩, ?_⟩
                      refine R_s (P := True) (f' := (2, [some (vR 88), some (vI t), some (vI f), some (vI n), some (vI j), none], [vI t, vR 88], LAY (u (u (u (u (shA A) 80 (wr (A 80) (F 16) t)) 81 (wr (A 81) (F 16) f)) 82 (wr (A 82) (F 16) n)) 83 (wr (A 83) (F 16) 0)) (u (shF F) 16 ((F 16) + 1)), 0, 0)) hc158 2 rfl trivial ?_
                      refine R_cv hc158 rfl rfl ?_ (fun r G h => h)
                      refine R_s (P := inI ((F 4) - 1) ∧ True) (f' := (8, [some (vR 88), some (vI t)], [vI ((F 4) - 1), vI 0, vI t], LAY (u (u (u (u (shA A) 80 (wr (A 80) (F 16) t)) 81 (wr (A 81) (F 16) f)) 82 (wr (A 82) (F 16) n)) 83 (wr (A 83) (F 16) 0)) (u (shF F) 16 ((F 16) + 1)), 0, 0)) hc107 6 rfl ⟨⟨by omega, by omega⟩, trivial⟩ ?_
                      refine R_cs hc107 rfl rfl ?_ (fun r G h => h)
                      refine R_s (P := True) (f' := (2, [some (vI t), some (vI 0), some (vI ((F 4) - 1))], [vI 0, vI t], LAY (u (u (u (u (shA A) 80 (wr (A 80) (F 16) t)) 81 (wr (A 81) (F 16) f)) 82 (wr (A 82) (F 16) n)) 83 (wr (A 83) (F 16) 0)) (u (shF F) 16 ((F 16) + 1)), 0, 0)) hc104 2 rfl trivial ?_
                      refine R_ic (t := 14) hc104 rfl rfl (fun (z : t < 0) => absurd z (by omega)) (fun (_ : ¬ (t < 0)) => ?_)
                      refine R_s (P := True) (f' := (7, [some (vI t), some (vI 0), some (vI ((F 4) - 1))], [vI ((F 4) - 1), vI t], LAY (u (u (u (u (shA A) 80 (wr (A 80) (F 16) t)) 81 (wr (A 81) (F 16) f)) 82 (wr (A 82) (F 16) n)) 83 (wr (A 83) (F 16) 0)) (u (shF F) 16 ((F 16) + 1)), 0, 0)) hc104 2 rfl trivial ?_
                      refine R_ic (t := 14) hc104 rfl rfl (fun (z : (F 4) - 1 < t) => absurd z (by omega)) (fun (_ : ¬ ((F 4) - 1 < t)) => ?_)
                      refine R_s (P := True) (f' := (15, [some (vI t), some (vI 0), some (vI ((F 4) - 1))], [vI 1], LAY (u (u (u (u (shA A) 80 (wr (A 80) (F 16) t)) 81 (wr (A 81) (F 16) f)) 82 (wr (A 82) (F 16) n)) 83 (wr (A 83) (F 16) 0)) (u (shF F) 16 ((F 16) + 1)), 0, 0)) hc104 2 rfl trivial ?_
                      refine R_retz hc104 rfl rfl (Or.inr rfl) ?_
                      refine R_s (f' := (11, [some (vR 88), some (vI t)], [vI 1], LAY (u (u (u (u (shA A) 80 (wr (A 80) (F 16) t)) 81 (wr (A 81) (F 16) f)) 82 (wr (A 82) (F 16) n)) 83 (wr (A 83) (F 16) 0)) (u (shF F) 16 ((F 16) + 1)), 0, 0)) hc107 0 rfl trivial ?_
                      refine R_retz hc107 rfl rfl (Or.inr rfl) ?_
                      refine R_s (f' := (5, [some (vR 88), some (vI t), some (vI f), some (vI n), some (vI j), none], [vI 1], LAY (u (u (u (u (shA A) 80 (wr (A 80) (F 16) t)) 81 (wr (A 81) (F 16) f)) 82 (wr (A 82) (F 16) n)) 83 (wr (A 83) (F 16) 0)) (u (shF F) 16 ((F 16) + 1)), 0, 0)) hc158 0 rfl trivial ?_
                      refine R_if (t := 15) hc158 rfl rfl (fun (_ : ¬ 1 = 0) => ?_) (fun (z : ¬ (¬ 1 = 0)) => absurd (by decide) z)
                      refine R_s (P := True) (f' := (23, [some (vR 88), some (vI t), some (vI f), some (vI n), some (vI j), none], [vI 700, vI (F 2), vI f], LAY (u (u (u (u (shA A) 80 (wr (A 80) (F 16) t)) 81 (wr (A 81) (F 16) f)) 82 (wr (A 82) (F 16) n)) 83 (wr (A 83) (F 16) 0)) (u (shF F) 16 ((F 16) + 1)), 0, 0)) hc158 4 rfl trivial ?_
                      refine R_cs hc158 rfl rfl ?_ (fun r G h => h)
                      refine R_s (P := True) (f' := (2, [some (vI f), some (vI (F 2)), some (vI 700)], [vI (F 2), vI f], LAY (u (u (u (u (shA A) 80 (wr (A 80) (F 16) t)) 81 (wr (A 81) (F 16) f)) 82 (wr (A 82) (F 16) n)) 83 (wr (A 83) (F 16) 0)) (u (shF F) 16 ((F 16) + 1)), 0, 0)) hc104 2 rfl trivial ?_
                      refine R_ic (t := 14) hc104 rfl rfl (fun (z : f < F 2) => absurd z (by omega)) (fun (_ : ¬ (f < F 2)) => ?_)
                      refine R_s (P := True) (f' := (7, [some (vI f), some (vI (F 2)), some (vI 700)], [vI 700, vI f], LAY (u (u (u (u (shA A) 80 (wr (A 80) (F 16) t)) 81 (wr (A 81) (F 16) f)) 82 (wr (A 82) (F 16) n)) 83 (wr (A 83) (F 16) 0)) (u (shF F) 16 ((F 16) + 1)), 0, 0)) hc104 2 rfl trivial ?_
                      refine R_ic (t := 14) hc104 rfl rfl (fun (z : 700 < f) => absurd z (by omega)) (fun (_ : ¬ (700 < f)) => ?_)
                      refine R_s (P := True) (f' := (15, [some (vI f), some (vI (F 2)), some (vI 700)], [vI 1], LAY (u (u (u (u (shA A) 80 (wr (A 80) (F 16) t)) 81 (wr (A 81) (F 16) f)) 82 (wr (A 82) (F 16) n)) 83 (wr (A 83) (F 16) 0)) (u (shF F) 16 ((F 16) + 1)), 0, 0)) hc104 2 rfl trivial ?_
                      refine R_retz hc104 rfl rfl (Or.inr rfl) ?_
                      refine R_s (f' := (26, [some (vR 88), some (vI t), some (vI f), some (vI n), some (vI j), none], [vI 1], LAY (u (u (u (u (shA A) 80 (wr (A 80) (F 16) t)) 81 (wr (A 81) (F 16) f)) 82 (wr (A 82) (F 16) n)) 83 (wr (A 83) (F 16) 0)) (u (shF F) 16 ((F 16) + 1)), 0, 0)) hc158 0 rfl trivial ?_
                      refine R_if (t := 39) hc158 rfl rfl (fun (z : 1 = 0) => absurd z (by decide)) (fun (_ : ¬ (1 = 0)) => ?_)
                      refine R_s (P := True) (f' := (33, [some (vR 88), some (vI t), some (vI f), some (vI n), some (vI j), none], [vI 99, vI 1, vI n], LAY (u (u (u (u (shA A) 80 (wr (A 80) (F 16) t)) 81 (wr (A 81) (F 16) f)) 82 (wr (A 82) (F 16) n)) 83 (wr (A 83) (F 16) 0)) (u (shF F) 16 ((F 16) + 1)), 0, 0)) hc158 3 rfl trivial ?_
                      refine R_cs hc158 rfl rfl ?_ (fun r G h => h)
                      refine R_s (P := True) (f' := (2, [some (vI n), some (vI 1), some (vI 99)], [vI 1, vI n], LAY (u (u (u (u (shA A) 80 (wr (A 80) (F 16) t)) 81 (wr (A 81) (F 16) f)) 82 (wr (A 82) (F 16) n)) 83 (wr (A 83) (F 16) 0)) (u (shF F) 16 ((F 16) + 1)), 0, 0)) hc104 2 rfl trivial ?_
                      refine R_ic (t := 14) hc104 rfl rfl (fun (z : n < 1) => absurd z (by omega)) (fun (_ : ¬ (n < 1)) => ?_)
                      refine R_s (P := True) (f' := (7, [some (vI n), some (vI 1), some (vI 99)], [vI 99, vI n], LAY (u (u (u (u (shA A) 80 (wr (A 80) (F 16) t)) 81 (wr (A 81) (F 16) f)) 82 (wr (A 82) (F 16) n)) 83 (wr (A 83) (F 16) 0)) (u (shF F) 16 ((F 16) + 1)), 0, 0)) hc104 2 rfl trivial ?_
                      refine R_ic (t := 14) hc104 rfl rfl (fun (z : 99 < n) => absurd z (by omega)) (fun (_ : ¬ (99 < n)) => ?_)
                      refine R_s (P := True) (f' := (15, [some (vI n), some (vI 1), some (vI 99)], [vI 1], LAY (u (u (u (u (shA A) 80 (wr (A 80) (F 16) t)) 81 (wr (A 81) (F 16) f)) 82 (wr (A 82) (F 16) n)) 83 (wr (A 83) (F 16) 0)) (u (shF F) 16 ((F 16) + 1)), 0, 0)) hc104 2 rfl trivial ?_
                      refine R_retz hc104 rfl rfl (Or.inr rfl) ?_
                      refine R_s (f' := (36, [some (vR 88), some (vI t), some (vI f), some (vI n), some (vI j), none], [vI 1], LAY (u (u (u (u (shA A) 80 (wr (A 80) (F 16) t)) 81 (wr (A 81) (F 16) f)) 82 (wr (A 82) (F 16) n)) 83 (wr (A 83) (F 16) 0)) (u (shF F) 16 ((F 16) + 1)), 0, 0)) hc158 0 rfl trivial ?_
                      refine R_if (t := 46) hc158 rfl rfl (fun (_ : ¬ 1 = 0) => ?_) (fun (z : ¬ (¬ 1 = 0)) => absurd (by decide) z)
                      refine R_s (P := True) (f' := (52, [some (vR 88), some (vI t), some (vI f), some (vI n), some (vI j), none], [vI 30, vI (F 16)], LAY (u (u (u (u (shA A) 80 (wr (A 80) (F 16) t)) 81 (wr (A 81) (F 16) f)) 82 (wr (A 82) (F 16) n)) 83 (wr (A 83) (F 16) 0)) (u (shF F) 16 ((F 16) + 1)), 0, 0)) hc158 3 rfl trivial ?_
                      refine R_ic (t := 62) hc158 rfl rfl (fun (_ : ¬ F 16 = 30) => ?_) (fun (z : ¬ (¬ F 16 = 30)) => absurd (show ¬ F 16 = 30 by omega) z)
                      refine R_s (P := inI (f + n) ∧ inI ((f + n) - 1) ∧ True) (f' := (70, [some (vR 88), some (vI t), some (vI f), some (vI n), some (vI j), none], [vI ((f + n) - 1), vI f, vI t, vR 88], LAY (u (u (u (u (shA A) 80 (wr (A 80) (F 16) t)) 81 (wr (A 81) (F 16) f)) 82 (wr (A 82) (F 16) n)) 83 (wr (A 83) (F 16) 0)) (u (shF F) 16 ((F 16) + 1)), 0, 0)) hc158 8 rfl ⟨⟨by omega, by omega⟩, ⟨by omega, by omega⟩, trivial⟩ ?_
                      refine R_cv hc158 rfl rfl (l_isLeased (A := (u (u (u (u (shA A) 80 (wr (A 80) (F 16) t)) 81 (wr (A 81) (F 16) f)) 82 (wr (A 82) (F 16) n)) 83 (wr (A 83) (F 16) 0))) (F := (u (shF F) 16 ((F 16) + 1))) (T := A 80) (Fr := A 81) (Y := A 82) ⟨le1, le2⟩ (hL 102 (by decide)) (hL 83 (by decide)) (fun i (hi : (i : Int) < F 16) => hLE.1.2.2.1 i (by omega) hi) (fun i (hi : (i : Int) < F 16) => hLE.1.2.2.2 i (by omega) (by omega))) (fun r G9 hp9 => ?_)
                      obtain ⟨e1, rfl⟩ := hp9
                      have e2 : r = some (vI gv) := by
                        rw [show f + n - 1 + 1 = f + n by omega] at e1
                        rw [hgv, hcf]
                        exact e1
                      clear e1
                      subst e2
                      refine R_s (f' := (73, [some (vR 88), some (vI t), some (vI f), some (vI n), some (vI j), none], [vI gv], LAY (u (u (u (u (shA A) 80 (wr (A 80) (F 16) t)) 81 (wr (A 81) (F 16) f)) 82 (wr (A 82) (F 16) n)) 83 (wr (A 83) (F 16) 0)) (u (shF F) 16 ((F 16) + 1)), 0, 0)) hc158 0 rfl trivial ?_
                      refine R_if (t := 102) hc158 rfl rfl (fun (c133 : ¬ gv = 0) => ?_) (fun (c133 : ¬ (¬ gv = 0)) => ?_)
                      · refine R_s (P := inI (3 * (F 16)) ∧ (0 ≤ 3 * (F 16) ∧ 3 * (F 16) < ((A 102).length : Int)) ∧ inI (3 * (F 16)) ∧ inI ((3 * (F 16)) + 1) ∧ (0 ≤ (3 * (F 16)) + 1 ∧ (3 * (F 16)) + 1 < ((wr (A 102) (3 * (F 16)) t).length : Int)) ∧ inI (3 * (F 16)) ∧ inI ((3 * (F 16)) + 2) ∧ (0 ≤ (3 * (F 16)) + 2 ∧ (3 * (F 16)) + 2 < ((wr (wr (A 102) (3 * (F 16)) t) ((3 * (F 16)) + 1) f).length : Int)) ∧ ((0 ≤ F 16 ∧ F 16 < ((A 83).length : Int)) ∧ (0 = 0 ∨ 0 = 1)) ∧ inI ((F 16) + 1) ∧ inI (((F 16) + 1) - 1) ∧ True) (f' := (172, [some (vR 88), some (vI t), some (vI f), some (vI n), some (vI j), some (vI 0)], [vI (((F 16) + 1) - 1)], LAY (u (u (u (u (u (u (shA A) 80 (wr (A 80) (F 16) t)) 81 (wr (A 81) (F 16) f)) 82 (wr (A 82) (F 16) n)) 83 (wr (A 83) (F 16) 0)) 102 (wr (wr (wr (A 102) (3 * (F 16)) t) ((3 * (F 16)) + 1) f) ((3 * (F 16)) + 2) n)) 103 (wr (A 83) (F 16) 0)) (u (u (shF F) 16 ((F 16) + 1)) 22 ((F 16) + 1)), 0, 0)) hc158 46 rfl ⟨⟨by omega, by omega⟩, ⟨by omega, by omega⟩, ⟨by omega, by omega⟩, ⟨by omega, by omega⟩, ⟨by omega, by simp only [wr_len]; omega⟩, ⟨by omega, by omega⟩, ⟨by omega, by omega⟩, ⟨by omega, by simp only [wr_len]; omega⟩, ⟨⟨by omega, by omega⟩, by omega⟩, ⟨by omega, by omega⟩, ⟨by omega, by omega⟩, trivial⟩ ?_
                        refine R_reti hc158 rfl rfl ?_
                        first
                          | (exfalso; omega; done)
                          | exact ⟨(by rw [show ((F 16) + 1) - 1 = F 16 by omega]), (u (u (u (u (u A 80 (wr (A 80) (F 16) t)) 81 (wr (A 81) (F 16) f)) 82 (wr (A 82) (F 16) n)) 83 (wr (A 83) (F 16) 0)) 102 (wr (wr (wr (A 102) (3 * (F 16)) t) ((3 * (F 16)) + 1) f) ((3 * (F 16)) + 2) n)), (u F 16 ((F 16) + 1)), rfl, rfl, ⟨(LENS_u (LENS_u (LENS_u (LENS_u (LENS_u hL (by show (wr (A 80) (F 16) t).length = (A 80).length; simp only [wr_len])) (by show (wr (A 81) (F 16) f).length = (A 81).length; simp only [wr_len])) (by show (wr (A 82) (F 16) n).length = (A 82).length; simp only [wr_len])) (by show (wr (A 83) (F 16) 0).length = (A 83).length; simp only [wr_len])) (by show (wr (wr (wr (A 102) (3 * (F 16)) t) ((3 * (F 16)) + 1) f) ((3 * (F 16)) + 2) n).length = (A 102).length; simp only [wr_len])), hR0.2.1, hR0.2.2.1, hR0.2.2.2.1, hR0.2.2.2.2.1, ⟨LEAS_add hR0.2.2.2.2.2.1.1 (hL 80 (by decide)) (hL 81 (by decide)) (hL 82 (by decide)) (hL 83 (by decide)) (hL 102 (by decide)) (by omega) ⟨by omega, by omega⟩ ⟨by omega, by omega⟩ (by decide), hR0.2.2.2.2.2.1.2⟩, hR0.2.2.2.2.2.2.1, hR0.2.2.2.2.2.2.2.1, hR0.2.2.2.2.2.2.2.2.1, (REFU_c hR0.2.2.2.2.2.2.2.2.2)⟩⟩
                      · refine R_s (P := (0 ≤ t ∧ t < ((A 15).length : Int)) ∧ True) (f' := (82, [some (vR 88), some (vI t), some (vI f), some (vI n), some (vI j), none], [vI (rd (A 15) t)], LAY (u (u (u (u (shA A) 80 (wr (A 80) (F 16) t)) 81 (wr (A 81) (F 16) f)) 82 (wr (A 82) (F 16) n)) 83 (wr (A 83) (F 16) 0)) (u (shF F) 16 ((F 16) + 1)), 0, 0)) hc158 4 rfl ⟨⟨by omega, by omega⟩, trivial⟩ ?_
                        refine R_if (t := 102) hc158 rfl rfl (fun (_ : ¬ rd (A 15) t = 0) => ?_) (fun (z : ¬ (¬ rd (A 15) t = 0)) => absurd (show ¬ rd (A 15) t = 0 by omega) z)
                        refine R_s (P := inI (3 * (F 16)) ∧ (0 ≤ 3 * (F 16) ∧ 3 * (F 16) < ((A 102).length : Int)) ∧ inI (3 * (F 16)) ∧ inI ((3 * (F 16)) + 1) ∧ (0 ≤ (3 * (F 16)) + 1 ∧ (3 * (F 16)) + 1 < ((wr (A 102) (3 * (F 16)) t).length : Int)) ∧ inI (3 * (F 16)) ∧ inI ((3 * (F 16)) + 2) ∧ (0 ≤ (3 * (F 16)) + 2 ∧ (3 * (F 16)) + 2 < ((wr (wr (A 102) (3 * (F 16)) t) ((3 * (F 16)) + 1) f).length : Int)) ∧ ((0 ≤ F 16 ∧ F 16 < ((A 83).length : Int)) ∧ (0 = 0 ∨ 0 = 1)) ∧ inI ((F 16) + 1) ∧ inI (((F 16) + 1) - 1) ∧ True) (f' := (172, [some (vR 88), some (vI t), some (vI f), some (vI n), some (vI j), some (vI 0)], [vI (((F 16) + 1) - 1)], LAY (u (u (u (u (u (u (shA A) 80 (wr (A 80) (F 16) t)) 81 (wr (A 81) (F 16) f)) 82 (wr (A 82) (F 16) n)) 83 (wr (A 83) (F 16) 0)) 102 (wr (wr (wr (A 102) (3 * (F 16)) t) ((3 * (F 16)) + 1) f) ((3 * (F 16)) + 2) n)) 103 (wr (A 83) (F 16) 0)) (u (u (shF F) 16 ((F 16) + 1)) 22 ((F 16) + 1)), 0, 0)) hc158 46 rfl ⟨⟨by omega, by omega⟩, ⟨by omega, by omega⟩, ⟨by omega, by omega⟩, ⟨by omega, by omega⟩, ⟨by omega, by simp only [wr_len]; omega⟩, ⟨by omega, by omega⟩, ⟨by omega, by omega⟩, ⟨by omega, by simp only [wr_len]; omega⟩, ⟨⟨by omega, by omega⟩, by omega⟩, ⟨by omega, by omega⟩, ⟨by omega, by omega⟩, trivial⟩ ?_
                        refine R_reti hc158 rfl rfl ?_
                        first
                          | (exfalso; omega; done)
                          | exact ⟨(by rw [show ((F 16) + 1) - 1 = F 16 by omega]), (u (u (u (u (u A 80 (wr (A 80) (F 16) t)) 81 (wr (A 81) (F 16) f)) 82 (wr (A 82) (F 16) n)) 83 (wr (A 83) (F 16) 0)) 102 (wr (wr (wr (A 102) (3 * (F 16)) t) ((3 * (F 16)) + 1) f) ((3 * (F 16)) + 2) n)), (u F 16 ((F 16) + 1)), rfl, rfl, ⟨(LENS_u (LENS_u (LENS_u (LENS_u (LENS_u hL (by show (wr (A 80) (F 16) t).length = (A 80).length; simp only [wr_len])) (by show (wr (A 81) (F 16) f).length = (A 81).length; simp only [wr_len])) (by show (wr (A 82) (F 16) n).length = (A 82).length; simp only [wr_len])) (by show (wr (A 83) (F 16) 0).length = (A 83).length; simp only [wr_len])) (by show (wr (wr (wr (A 102) (3 * (F 16)) t) ((3 * (F 16)) + 1) f) ((3 * (F 16)) + 2) n).length = (A 102).length; simp only [wr_len])), hR0.2.1, hR0.2.2.1, hR0.2.2.2.1, hR0.2.2.2.2.1, ⟨LEAS_add hR0.2.2.2.2.2.1.1 (hL 80 (by decide)) (hL 81 (by decide)) (hL 82 (by decide)) (hL 83 (by decide)) (hL 102 (by decide)) (by omega) ⟨by omega, by omega⟩ ⟨by omega, by omega⟩ (by decide), hR0.2.2.2.2.2.1.2⟩, hR0.2.2.2.2.2.2.1, hR0.2.2.2.2.2.2.2.1, hR0.2.2.2.2.2.2.2.2.1, (REFU_c hR0.2.2.2.2.2.2.2.2.2)⟩⟩
                    · refine R_s (P := inI (f + n) ∧ True) (f' := (119, [some (vR 1), some (vI t), some (vI f), some (vI n), some (vI j), some (vI 1), none], [vI (f + n), vI f, vI t, vR 79], LAY (shA A) (shF F), 0, 0)) hc83 7 rfl ⟨⟨by omega, by omega⟩, trivial⟩ ?_
                      refine R_cv hc83 rfl rfl (l_isFree (A := (shA A)) (F := (shF F)) (LENS_sh hL) ⟨le1, le2⟩ (fun i (hi : (i : Int) < F 16) => (hLE.1.2.2.1 i (by omega) hi).2.2.2) (fun i (hi : (i : Int) < F 16) => hLE.1.2.2.2 i (by omega) (by omega))) (fun r G9 hp9 => ?_)
                      obtain ⟨e1, rfl⟩ := hp9
                      have e2 : r = some (vI fv) := by rw [hfv, hcf]; exact e1
                      clear e1
                      subst e2
                      refine R_s (f' := (122, [some (vR 1), some (vI t), some (vI f), some (vI n), some (vI j), some (vI 1), none], [vI fv], LAY (shA A) (shF F), 0, 0)) hc83 0 rfl trivial ?_
                      refine R_if (t := 129) hc83 rfl rfl (fun (c23 : fv = 0) => ?_) (fun (c23 : ¬ (fv = 0)) => ?_)
                      · refine R_s (P := True) (f' := (141, [some (vR 1), some (vI t), some (vI f), some (vI n), some (vI j), some (vI 1), some (vI 0)], [vI 0, vI n, vI f, vI t, vR 79], LAY (shA A) (shF F), 0, 0)) hc83 8 rfl trivial ?_
                        refine R_cv hc83 rfl rfl ?_ (fun r G h => h)
                        refine R_s (P := (0 ≤ F 16 ∧ F 16 < ((A 80).length : Int)) ∧ (0 ≤ F 16 ∧ F 16 < ((A 81).length : Int)) ∧ (0 ≤ F 16 ∧ F 16 < ((A 82).length : Int)) ∧ ((0 ≤ F 16 ∧ F 16 < ((A 83).length : Int)) ∧ (0 = 0 ∨ 0 = 1)) ∧ inI ((F 16) + 1) ∧ True) (f' := (51, [some (vR 79), some (vI t), some (vI f), some (vI n), some (vI 0), some (vI (F 16))], [vI (F 16)], LAY (u (u (u (u (shA A) 80 (wr (A 80) (F 16) t)) 81 (wr (A 81) (F 16) f)) 82 (wr (A 82) (F 16) n)) 83 (wr (A 83) (F 16) 0)) (u (shF F) 16 ((F 16) + 1)), 0, 0)) hc22 30 rfl ⟨⟨by omega, by omega⟩, ⟨by omega, by omega⟩, ⟨by omega, by omega⟩, ⟨⟨by omega, by omega⟩, by omega⟩, ⟨by omega, by omega⟩, trivial⟩ ?_
                        refine R_reti hc22 rfl rfl ?_
                        refine R_s (f' := (144, [some (vR 1), some (vI t), some (vI f), some (vI n), some (vI j), some (vI 1), some (vI 0)], [vI (F 16)], LAY (u (u (u (u (shA A) 80 (wr (A 80) (F 16) t)) 81 (wr (A 81) (F 16) f)) 82 (wr (A 82) (F 16) n)) 83 (wr (A 83) (F 16) 0)) (u (shF F) 16 ((F 16) + 1)), 0, 0)) hc83 0 rfl trivial ?_
                        refine R_reti hc83 rfl rfl ⟨⟨_, rfl⟩, ⟨_, _, rfl, rfl⟩, ?_⟩
                        refine R_s (P := True) (f' := (2, [some (vR 88), some (vI t), some (vI f), some (vI n), some (vI j), none], [vI t, vR 88], LAY (u (u (u (u (shA A) 80 (wr (A 80) (F 16) t)) 81 (wr (A 81) (F 16) f)) 82 (wr (A 82) (F 16) n)) 83 (wr (A 83) (F 16) 0)) (u (shF F) 16 ((F 16) + 1)), 0, 0)) hc158 2 rfl trivial ?_
                        refine R_cv hc158 rfl rfl ?_ (fun r G h => h)
                        refine R_s (P := inI ((F 4) - 1) ∧ True) (f' := (8, [some (vR 88), some (vI t)], [vI ((F 4) - 1), vI 0, vI t], LAY (u (u (u (u (shA A) 80 (wr (A 80) (F 16) t)) 81 (wr (A 81) (F 16) f)) 82 (wr (A 82) (F 16) n)) 83 (wr (A 83) (F 16) 0)) (u (shF F) 16 ((F 16) + 1)), 0, 0)) hc107 6 rfl ⟨⟨by omega, by omega⟩, trivial⟩ ?_
                        refine R_cs hc107 rfl rfl ?_ (fun r G h => h)
                        refine R_s (P := True) (f' := (2, [some (vI t), some (vI 0), some (vI ((F 4) - 1))], [vI 0, vI t], LAY (u (u (u (u (shA A) 80 (wr (A 80) (F 16) t)) 81 (wr (A 81) (F 16) f)) 82 (wr (A 82) (F 16) n)) 83 (wr (A 83) (F 16) 0)) (u (shF F) 16 ((F 16) + 1)), 0, 0)) hc104 2 rfl trivial ?_
                        refine R_ic (t := 14) hc104 rfl rfl (fun (z : t < 0) => absurd z (by omega)) (fun (_ : ¬ (t < 0)) => ?_)
                        refine R_s (P := True) (f' := (7, [some (vI t), some (vI 0), some (vI ((F 4) - 1))], [vI ((F 4) - 1), vI t], LAY (u (u (u (u (shA A) 80 (wr (A 80) (F 16) t)) 81 (wr (A 81) (F 16) f)) 82 (wr (A 82) (F 16) n)) 83 (wr (A 83) (F 16) 0)) (u (shF F) 16 ((F 16) + 1)), 0, 0)) hc104 2 rfl trivial ?_
                        refine R_ic (t := 14) hc104 rfl rfl (fun (z : (F 4) - 1 < t) => absurd z (by omega)) (fun (_ : ¬ ((F 4) - 1 < t)) => ?_)
                        refine R_s (P := True) (f' := (15, [some (vI t), some (vI 0), some (vI ((F 4) - 1))], [vI 1], LAY (u (u (u (u (shA A) 80 (wr (A 80) (F 16) t)) 81 (wr (A 81) (F 16) f)) 82 (wr (A 82) (F 16) n)) 83 (wr (A 83) (F 16) 0)) (u (shF F) 16 ((F 16) + 1)), 0, 0)) hc104 2 rfl trivial ?_
                        refine R_retz hc104 rfl rfl (Or.inr rfl) ?_
                        refine R_s (f' := (11, [some (vR 88), some (vI t)], [vI 1], LAY (u (u (u (u (shA A) 80 (wr (A 80) (F 16) t)) 81 (wr (A 81) (F 16) f)) 82 (wr (A 82) (F 16) n)) 83 (wr (A 83) (F 16) 0)) (u (shF F) 16 ((F 16) + 1)), 0, 0)) hc107 0 rfl trivial ?_
                        refine R_retz hc107 rfl rfl (Or.inr rfl) ?_
                        refine R_s (f' := (5, [some (vR 88), some (vI t), some (vI f), some (vI n), some (vI j), none], [vI 1], LAY (u (u (u (u (shA A) 80 (wr (A 80) (F 16) t)) 81 (wr (A 81) (F 16) f)) 82 (wr (A 82) (F 16) n)) 83 (wr (A 83) (F 16) 0)) (u (shF F) 16 ((F 16) + 1)), 0, 0)) hc158 0 rfl trivial ?_
                        refine R_if (t := 15) hc158 rfl rfl (fun (_ : ¬ 1 = 0) => ?_) (fun (z : ¬ (¬ 1 = 0)) => absurd (by decide) z)
                        refine R_s (P := True) (f' := (23, [some (vR 88), some (vI t), some (vI f), some (vI n), some (vI j), none], [vI 700, vI (F 2), vI f], LAY (u (u (u (u (shA A) 80 (wr (A 80) (F 16) t)) 81 (wr (A 81) (F 16) f)) 82 (wr (A 82) (F 16) n)) 83 (wr (A 83) (F 16) 0)) (u (shF F) 16 ((F 16) + 1)), 0, 0)) hc158 4 rfl trivial ?_
                        refine R_cs hc158 rfl rfl ?_ (fun r G h => h)
                        refine R_s (P := True) (f' := (2, [some (vI f), some (vI (F 2)), some (vI 700)], [vI (F 2), vI f], LAY (u (u (u (u (shA A) 80 (wr (A 80) (F 16) t)) 81 (wr (A 81) (F 16) f)) 82 (wr (A 82) (F 16) n)) 83 (wr (A 83) (F 16) 0)) (u (shF F) 16 ((F 16) + 1)), 0, 0)) hc104 2 rfl trivial ?_
                        refine R_ic (t := 14) hc104 rfl rfl (fun (z : f < F 2) => absurd z (by omega)) (fun (_ : ¬ (f < F 2)) => ?_)
                        refine R_s (P := True) (f' := (7, [some (vI f), some (vI (F 2)), some (vI 700)], [vI 700, vI f], LAY (u (u (u (u (shA A) 80 (wr (A 80) (F 16) t)) 81 (wr (A 81) (F 16) f)) 82 (wr (A 82) (F 16) n)) 83 (wr (A 83) (F 16) 0)) (u (shF F) 16 ((F 16) + 1)), 0, 0)) hc104 2 rfl trivial ?_
                        refine R_ic (t := 14) hc104 rfl rfl (fun (z : 700 < f) => absurd z (by omega)) (fun (_ : ¬ (700 < f)) => ?_)
                        refine R_s (P := True) (f' := (15, [some (vI f), some (vI (F 2)), some (vI 700)], [vI 1], LAY (u (u (u (u (shA A) 80 (wr (A 80) (F 16) t)) 81 (wr (A 81) (F 16) f)) 82 (wr (A 82) (F 16) n)) 83 (wr (A 83) (F 16) 0)) (u (shF F) 16 ((F 16) + 1)), 0, 0)) hc104 2 rfl trivial ?_
                        refine R_retz hc104 rfl rfl (Or.inr rfl) ?_
                        refine R_s (f' := (26, [some (vR 88), some (vI t), some (vI f), some (vI n), some (vI j), none], [vI 1], LAY (u (u (u (u (shA A) 80 (wr (A 80) (F 16) t)) 81 (wr (A 81) (F 16) f)) 82 (wr (A 82) (F 16) n)) 83 (wr (A 83) (F 16) 0)) (u (shF F) 16 ((F 16) + 1)), 0, 0)) hc158 0 rfl trivial ?_
                        refine R_if (t := 39) hc158 rfl rfl (fun (z : 1 = 0) => absurd z (by decide)) (fun (_ : ¬ (1 = 0)) => ?_)
                        refine R_s (P := True) (f' := (33, [some (vR 88), some (vI t), some (vI f), some (vI n), some (vI j), none], [vI 99, vI 1, vI n], LAY (u (u (u (u (shA A) 80 (wr (A 80) (F 16) t)) 81 (wr (A 81) (F 16) f)) 82 (wr (A 82) (F 16) n)) 83 (wr (A 83) (F 16) 0)) (u (shF F) 16 ((F 16) + 1)), 0, 0)) hc158 3 rfl trivial ?_
                        refine R_cs hc158 rfl rfl ?_ (fun r G h => h)
                        refine R_s (P := True) (f' := (2, [some (vI n), some (vI 1), some (vI 99)], [vI 1, vI n], LAY (u (u (u (u (shA A) 80 (wr (A 80) (F 16) t)) 81 (wr (A 81) (F 16) f)) 82 (wr (A 82) (F 16) n)) 83 (wr (A 83) (F 16) 0)) (u (shF F) 16 ((F 16) + 1)), 0, 0)) hc104 2 rfl trivial ?_
                        refine R_ic (t := 14) hc104 rfl rfl (fun (z : n < 1) => absurd z (by omega)) (fun (_ : ¬ (n < 1)) => ?_)
                        refine R_s (P := True) (f' := (7, [some (vI n), some (vI 1), some (vI 99)], [vI 99, vI n], LAY (u (u (u (u (shA A) 80 (wr (A 80) (F 16) t)) 81 (wr (A 81) (F 16) f)) 82 (wr (A 82) (F 16) n)) 83 (wr (A 83) (F 16) 0)) (u (shF F) 16 ((F 16) + 1)), 0, 0)) hc104 2 rfl trivial ?_
                        refine R_ic (t := 14) hc104 rfl rfl (fun (z : 99 < n) => absurd z (by omega)) (fun (_ : ¬ (99 < n)) => ?_)
                        refine R_s (P := True) (f' := (15, [some (vI n), some (vI 1), some (vI 99)], [vI 1], LAY (u (u (u (u (shA A) 80 (wr (A 80) (F 16) t)) 81 (wr (A 81) (F 16) f)) 82 (wr (A 82) (F 16) n)) 83 (wr (A 83) (F 16) 0)) (u (shF F) 16 ((F 16) + 1)), 0, 0)) hc104 2 rfl trivial ?_
                        refine R_retz hc104 rfl rfl (Or.inr rfl) ?_
                        refine R_s (f' := (36, [some (vR 88), some (vI t), some (vI f), some (vI n), some (vI j), none], [vI 1], LAY (u (u (u (u (shA A) 80 (wr (A 80) (F 16) t)) 81 (wr (A 81) (F 16) f)) 82 (wr (A 82) (F 16) n)) 83 (wr (A 83) (F 16) 0)) (u (shF F) 16 ((F 16) + 1)), 0, 0)) hc158 0 rfl trivial ?_
                        refine R_if (t := 46) hc158 rfl rfl (fun (_ : ¬ 1 = 0) => ?_) (fun (z : ¬ (¬ 1 = 0)) => absurd (by decide) z)
                        refine R_s (P := True) (f' := (52, [some (vR 88), some (vI t), some (vI f), some (vI n), some (vI j), none], [vI 30, vI (F 16)], LAY (u (u (u (u (shA A) 80 (wr (A 80) (F 16) t)) 81 (wr (A 81) (F 16) f)) 82 (wr (A 82) (F 16) n)) 83 (wr (A 83) (F 16) 0)) (u (shF F) 16 ((F 16) + 1)), 0, 0)) hc158 3 rfl trivial ?_
                        refine R_ic (t := 62) hc158 rfl rfl (fun (_ : ¬ F 16 = 30) => ?_) (fun (z : ¬ (¬ F 16 = 30)) => absurd (show ¬ F 16 = 30 by omega) z)
                        refine R_s (P := inI (f + n) ∧ inI ((f + n) - 1) ∧ True) (f' := (70, [some (vR 88), some (vI t), some (vI f), some (vI n), some (vI j), none], [vI ((f + n) - 1), vI f, vI t, vR 88], LAY (u (u (u (u (shA A) 80 (wr (A 80) (F 16) t)) 81 (wr (A 81) (F 16) f)) 82 (wr (A 82) (F 16) n)) 83 (wr (A 83) (F 16) 0)) (u (shF F) 16 ((F 16) + 1)), 0, 0)) hc158 8 rfl ⟨⟨by omega, by omega⟩, ⟨by omega, by omega⟩, trivial⟩ ?_
                        refine R_cv hc158 rfl rfl (l_isLeased (A := (u (u (u (u (shA A) 80 (wr (A 80) (F 16) t)) 81 (wr (A 81) (F 16) f)) 82 (wr (A 82) (F 16) n)) 83 (wr (A 83) (F 16) 0))) (F := (u (shF F) 16 ((F 16) + 1))) (T := A 80) (Fr := A 81) (Y := A 82) ⟨le1, le2⟩ (hL 102 (by decide)) (hL 83 (by decide)) (fun i (hi : (i : Int) < F 16) => hLE.1.2.2.1 i (by omega) hi) (fun i (hi : (i : Int) < F 16) => hLE.1.2.2.2 i (by omega) (by omega))) (fun r G9 hp9 => ?_)
                        obtain ⟨e1, rfl⟩ := hp9
                        have e2 : r = some (vI gv) := by
                          rw [show f + n - 1 + 1 = f + n by omega] at e1
                          rw [hgv, hcf]
                          exact e1
                        clear e1
                        subst e2
                        refine R_s (f' := (73, [some (vR 88), some (vI t), some (vI f), some (vI n), some (vI j), none], [vI gv], LAY (u (u (u (u (shA A) 80 (wr (A 80) (F 16) t)) 81 (wr (A 81) (F 16) f)) 82 (wr (A 82) (F 16) n)) 83 (wr (A 83) (F 16) 0)) (u (shF F) 16 ((F 16) + 1)), 0, 0)) hc158 0 rfl trivial ?_
                        refine R_if (t := 102) hc158 rfl rfl (fun (c134 : ¬ gv = 0) => ?_) (fun (c134 : ¬ (¬ gv = 0)) => ?_)
                        · refine R_s (P := inI (3 * (F 16)) ∧ (0 ≤ 3 * (F 16) ∧ 3 * (F 16) < ((A 102).length : Int)) ∧ inI (3 * (F 16)) ∧ inI ((3 * (F 16)) + 1) ∧ (0 ≤ (3 * (F 16)) + 1 ∧ (3 * (F 16)) + 1 < ((wr (A 102) (3 * (F 16)) t).length : Int)) ∧ inI (3 * (F 16)) ∧ inI ((3 * (F 16)) + 2) ∧ (0 ≤ (3 * (F 16)) + 2 ∧ (3 * (F 16)) + 2 < ((wr (wr (A 102) (3 * (F 16)) t) ((3 * (F 16)) + 1) f).length : Int)) ∧ ((0 ≤ F 16 ∧ F 16 < ((A 83).length : Int)) ∧ (0 = 0 ∨ 0 = 1)) ∧ inI ((F 16) + 1) ∧ inI (((F 16) + 1) - 1) ∧ True) (f' := (172, [some (vR 88), some (vI t), some (vI f), some (vI n), some (vI j), some (vI 0)], [vI (((F 16) + 1) - 1)], LAY (u (u (u (u (u (u (shA A) 80 (wr (A 80) (F 16) t)) 81 (wr (A 81) (F 16) f)) 82 (wr (A 82) (F 16) n)) 83 (wr (A 83) (F 16) 0)) 102 (wr (wr (wr (A 102) (3 * (F 16)) t) ((3 * (F 16)) + 1) f) ((3 * (F 16)) + 2) n)) 103 (wr (A 83) (F 16) 0)) (u (u (shF F) 16 ((F 16) + 1)) 22 ((F 16) + 1)), 0, 0)) hc158 46 rfl ⟨⟨by omega, by omega⟩, ⟨by omega, by omega⟩, ⟨by omega, by omega⟩, ⟨by omega, by omega⟩, ⟨by omega, by simp only [wr_len]; omega⟩, ⟨by omega, by omega⟩, ⟨by omega, by omega⟩, ⟨by omega, by simp only [wr_len]; omega⟩, ⟨⟨by omega, by omega⟩, by omega⟩, ⟨by omega, by omega⟩, ⟨by omega, by omega⟩, trivial⟩ ?_
                          refine R_reti hc158 rfl rfl ?_
                          first
                            | (exfalso; omega; done)
                            | exact ⟨(by rw [show ((F 16) + 1) - 1 = F 16 by omega]), (u (u (u (u (u A 80 (wr (A 80) (F 16) t)) 81 (wr (A 81) (F 16) f)) 82 (wr (A 82) (F 16) n)) 83 (wr (A 83) (F 16) 0)) 102 (wr (wr (wr (A 102) (3 * (F 16)) t) ((3 * (F 16)) + 1) f) ((3 * (F 16)) + 2) n)), (u F 16 ((F 16) + 1)), rfl, rfl, ⟨(LENS_u (LENS_u (LENS_u (LENS_u (LENS_u hL (by show (wr (A 80) (F 16) t).length = (A 80).length; simp only [wr_len])) (by show (wr (A 81) (F 16) f).length = (A 81).length; simp only [wr_len])) (by show (wr (A 82) (F 16) n).length = (A 82).length; simp only [wr_len])) (by show (wr (A 83) (F 16) 0).length = (A 83).length; simp only [wr_len])) (by show (wr (wr (wr (A 102) (3 * (F 16)) t) ((3 * (F 16)) + 1) f) ((3 * (F 16)) + 2) n).length = (A 102).length; simp only [wr_len])), hR0.2.1, hR0.2.2.1, hR0.2.2.2.1, hR0.2.2.2.2.1, ⟨LEAS_add hR0.2.2.2.2.2.1.1 (hL 80 (by decide)) (hL 81 (by decide)) (hL 82 (by decide)) (hL 83 (by decide)) (hL 102 (by decide)) (by omega) ⟨by omega, by omega⟩ ⟨by omega, by omega⟩ (by decide), hR0.2.2.2.2.2.1.2⟩, hR0.2.2.2.2.2.2.1, hR0.2.2.2.2.2.2.2.1, hR0.2.2.2.2.2.2.2.2.1, (REFU_c hR0.2.2.2.2.2.2.2.2.2)⟩⟩
                        · refine R_s (P := (0 ≤ t ∧ t < ((A 15).length : Int)) ∧ True) (f' := (82, [some (vR 88), some (vI t), some (vI f), some (vI n), some (vI j), none], [vI (rd (A 15) t)], LAY (u (u (u (u (shA A) 80 (wr (A 80) (F 16) t)) 81 (wr (A 81) (F 16) f)) 82 (wr (A 82) (F 16) n)) 83 (wr (A 83) (F 16) 0)) (u (shF F) 16 ((F 16) + 1)), 0, 0)) hc158 4 rfl ⟨⟨by omega, by omega⟩, trivial⟩ ?_
                          refine R_if (t := 102) hc158 rfl rfl (fun (z : ¬ rd (A 15) t = 0) => absurd z (by omega)) (fun (_ : ¬ (¬ rd (A 15) t = 0)) => ?_)
                          refine R_s (P := True) (f' := (90, [some (vR 88), some (vI t), some (vI f), some (vI n), some (vI j), none], [vI (F 17), vI n], LAY (u (u (u (u (shA A) 80 (wr (A 80) (F 16) t)) 81 (wr (A 81) (F 16) f)) 82 (wr (A 82) (F 16) n)) 83 (wr (A 83) (F 16) 0)) (u (shF F) 16 ((F 16) + 1)), 0, 0)) hc158 3 rfl trivial ?_
                          refine R_ic (t := 98) hc158 rfl rfl (fun (_ : n ≤ F 17) => ?_) (fun (z : ¬ (n ≤ F 17)) => absurd (show n ≤ F 17 by omega) z)
                          refine R_s (P := inI (3 * (F 16)) ∧ (0 ≤ 3 * (F 16) ∧ 3 * (F 16) < ((A 102).length : Int)) ∧ inI (3 * (F 16)) ∧ inI ((3 * (F 16)) + 1) ∧ (0 ≤ (3 * (F 16)) + 1 ∧ (3 * (F 16)) + 1 < ((wr (A 102) (3 * (F 16)) t).length : Int)) ∧ inI (3 * (F 16)) ∧ inI ((3 * (F 16)) + 2) ∧ (0 ≤ (3 * (F 16)) + 2 ∧ (3 * (F 16)) + 2 < ((wr (wr (A 102) (3 * (F 16)) t) ((3 * (F 16)) + 1) f).length : Int)) ∧ ((0 ≤ F 16 ∧ F 16 < ((A 83).length : Int)) ∧ (1 = 0 ∨ 1 = 1)) ∧ inI ((F 16) + 1) ∧ inI (((F 16) + 1) - 1) ∧ True) (f' := (172, [some (vR 88), some (vI t), some (vI f), some (vI n), some (vI j), some (vI 1)], [vI (((F 16) + 1) - 1)], LAY (u (u (u (u (u (u (shA A) 80 (wr (A 80) (F 16) t)) 81 (wr (A 81) (F 16) f)) 82 (wr (A 82) (F 16) n)) 83 (wr (A 83) (F 16) 0)) 102 (wr (wr (wr (A 102) (3 * (F 16)) t) ((3 * (F 16)) + 1) f) ((3 * (F 16)) + 2) n)) 103 (wr (A 83) (F 16) 1)) (u (u (shF F) 16 ((F 16) + 1)) 22 ((F 16) + 1)), 0, 0)) hc158 47 rfl ⟨⟨by omega, by omega⟩, ⟨by omega, by omega⟩, ⟨by omega, by omega⟩, ⟨by omega, by omega⟩, ⟨by omega, by simp only [wr_len]; omega⟩, ⟨by omega, by omega⟩, ⟨by omega, by omega⟩, ⟨by omega, by simp only [wr_len]; omega⟩, ⟨⟨by omega, by omega⟩, by omega⟩, ⟨by omega, by omega⟩, ⟨by omega, by omega⟩, trivial⟩ ?_
                          refine R_reti hc158 rfl rfl ?_
                          first
                            | (exfalso; omega; done)
                            | exact ⟨(by rw [show ((F 16) + 1) - 1 = F 16 by omega]), (u (u (u (u (u A 80 (wr (A 80) (F 16) t)) 81 (wr (A 81) (F 16) f)) 82 (wr (A 82) (F 16) n)) 83 (wr (A 83) (F 16) 0)) 102 (wr (wr (wr (A 102) (3 * (F 16)) t) ((3 * (F 16)) + 1) f) ((3 * (F 16)) + 2) n)), (u F 16 ((F 16) + 1)), rfl, rfl, ⟨(LENS_u (LENS_u (LENS_u (LENS_u (LENS_u hL (by show (wr (A 80) (F 16) t).length = (A 80).length; simp only [wr_len])) (by show (wr (A 81) (F 16) f).length = (A 81).length; simp only [wr_len])) (by show (wr (A 82) (F 16) n).length = (A 82).length; simp only [wr_len])) (by show (wr (A 83) (F 16) 0).length = (A 83).length; simp only [wr_len])) (by show (wr (wr (wr (A 102) (3 * (F 16)) t) ((3 * (F 16)) + 1) f) ((3 * (F 16)) + 2) n).length = (A 102).length; simp only [wr_len])), hR0.2.1, hR0.2.2.1, hR0.2.2.2.1, hR0.2.2.2.2.1, ⟨LEAS_add hR0.2.2.2.2.2.1.1 (hL 80 (by decide)) (hL 81 (by decide)) (hL 82 (by decide)) (hL 83 (by decide)) (hL 102 (by decide)) (by omega) ⟨by omega, by omega⟩ ⟨by omega, by omega⟩ (by decide), hR0.2.2.2.2.2.1.2⟩, hR0.2.2.2.2.2.2.1, hR0.2.2.2.2.2.2.2.1, hR0.2.2.2.2.2.2.2.2.1, (REFU_c hR0.2.2.2.2.2.2.2.2.2)⟩⟩
                      · refine R_s (P := True) (f' := (141, [some (vR 1), some (vI t), some (vI f), some (vI n), some (vI j), some (vI 1), some (vI 1)], [vI 1, vI n, vI f, vI t, vR 79], LAY (shA A) (shF F), 0, 0)) hc83 9 rfl trivial ?_
                        refine R_cv hc83 rfl rfl ?_ (fun r G h => h)
                        refine R_s (P := (0 ≤ F 16 ∧ F 16 < ((A 80).length : Int)) ∧ (0 ≤ F 16 ∧ F 16 < ((A 81).length : Int)) ∧ (0 ≤ F 16 ∧ F 16 < ((A 82).length : Int)) ∧ ((0 ≤ F 16 ∧ F 16 < ((A 83).length : Int)) ∧ (1 = 0 ∨ 1 = 1)) ∧ inI ((F 16) + 1) ∧ True) (f' := (51, [some (vR 79), some (vI t), some (vI f), some (vI n), some (vI 1), some (vI (F 16))], [vI (F 16)], LAY (u (u (u (u (shA A) 80 (wr (A 80) (F 16) t)) 81 (wr (A 81) (F 16) f)) 82 (wr (A 82) (F 16) n)) 83 (wr (A 83) (F 16) 1)) (u (shF F) 16 ((F 16) + 1)), 0, 0)) hc22 30 rfl ⟨⟨by omega, by omega⟩, ⟨by omega, by omega⟩, ⟨by omega, by omega⟩, ⟨⟨by omega, by omega⟩, by omega⟩, ⟨by omega, by omega⟩, trivial⟩ ?_
                        refine R_reti hc22 rfl rfl ?_
                        refine R_s (f' := (144, [some (vR 1), some (vI t), some (vI f), some (vI n), some (vI j), some (vI 1), some (vI 1)], [vI (F 16)], LAY (u (u (u (u (shA A) 80 (wr (A 80) (F 16) t)) 81 (wr (A 81) (F 16) f)) 82 (wr (A 82) (F 16) n)) 83 (wr (A 83) (F 16) 1)) (u (shF F) 16 ((F 16) + 1)), 0, 0)) hc83 0 rfl trivial ?_
                        refine R_reti hc83 rfl rfl ⟨⟨_, rfl⟩, ⟨_, _, rfl, rfl⟩, ?_⟩
                        refine R_s (P := True) (f' := (2, [some (vR 88), some (vI t), some (vI f), some (vI n), some (vI j), none], [vI t, vR 88], LAY (u (u (u (u (shA A) 80 (wr (A 80) (F 16) t)) 81 (wr (A 81) (F 16) f)) 82 (wr (A 82) (F 16) n)) 83 (wr (A 83) (F 16) 1)) (u (shF F) 16 ((F 16) + 1)), 0, 0)) hc158 2 rfl trivial ?_
                        refine R_cv hc158 rfl rfl ?_ (fun r G h => h)
                        refine R_s (P := inI ((F 4) - 1) ∧ True) (f' := (8, [some (vR 88), some (vI t)], [vI ((F 4) - 1), vI 0, vI t], LAY (u (u (u (u (shA A) 80 (wr (A 80) (F 16) t)) 81 (wr (A 81) (F 16) f)) 82 (wr (A 82) (F 16) n)) 83 (wr (A 83) (F 16) 1)) (u (shF F) 16 ((F 16) + 1)), 0, 0)) hc107 6 rfl ⟨⟨by omega, by omega⟩, trivial⟩ ?_
                        refine R_cs hc107 rfl rfl ?_ (fun r G h => h)
                        refine R_s (P := True) (f' := (2, [some (vI t), some (vI 0), some (vI ((F 4) - 1))], [vI 0, vI t], LAY (u (u (u (u (shA A) 80 (wr (A 80) (F 16) t)) 81 (wr (A 81) (F 16) f)) 82 (wr (A 82) (F 16) n)) 83 (wr (A 83) (F 16) 1)) (u (shF F) 16 ((F 16) + 1)), 0, 0)) hc104 2 rfl trivial ?_
                        refine R_ic (t := 14) hc104 rfl rfl (fun (z : t < 0) => absurd z (by omega)) (fun (_ : ¬ (t < 0)) => ?_)
                        refine R_s (P := True) (f' := (7, [some (vI t), some (vI 0), some (vI ((F 4) - 1))], [vI ((F 4) - 1), vI t], LAY (u (u (u (u (shA A) 80 (wr (A 80) (F 16) t)) 81 (wr (A 81) (F 16) f)) 82 (wr (A 82) (F 16) n)) 83 (wr (A 83) (F 16) 1)) (u (shF F) 16 ((F 16) + 1)), 0, 0)) hc104 2 rfl trivial ?_
                        refine R_ic (t := 14) hc104 rfl rfl (fun (z : (F 4) - 1 < t) => absurd z (by omega)) (fun (_ : ¬ ((F 4) - 1 < t)) => ?_)
                        refine R_s (P := True) (f' := (15, [some (vI t), some (vI 0), some (vI ((F 4) - 1))], [vI 1], LAY (u (u (u (u (shA A) 80 (wr (A 80) (F 16) t)) 81 (wr (A 81) (F 16) f)) 82 (wr (A 82) (F 16) n)) 83 (wr (A 83) (F 16) 1)) (u (shF F) 16 ((F 16) + 1)), 0, 0)) hc104 2 rfl trivial ?_
                        refine R_retz hc104 rfl rfl (Or.inr rfl) ?_
                        refine R_s (f' := (11, [some (vR 88), some (vI t)], [vI 1], LAY (u (u (u (u (shA A) 80 (wr (A 80) (F 16) t)) 81 (wr (A 81) (F 16) f)) 82 (wr (A 82) (F 16) n)) 83 (wr (A 83) (F 16) 1)) (u (shF F) 16 ((F 16) + 1)), 0, 0)) hc107 0 rfl trivial ?_
                        refine R_retz hc107 rfl rfl (Or.inr rfl) ?_
                        refine R_s (f' := (5, [some (vR 88), some (vI t), some (vI f), some (vI n), some (vI j), none], [vI 1], LAY (u (u (u (u (shA A) 80 (wr (A 80) (F 16) t)) 81 (wr (A 81) (F 16) f)) 82 (wr (A 82) (F 16) n)) 83 (wr (A 83) (F 16) 1)) (u (shF F) 16 ((F 16) + 1)), 0, 0)) hc158 0 rfl trivial ?_
                        refine R_if (t := 15) hc158 rfl rfl (fun (_ : ¬ 1 = 0) => ?_) (fun (z : ¬ (¬ 1 = 0)) => absurd (by decide) z)
                        refine R_s (P := True) (f' := (23, [some (vR 88), some (vI t), some (vI f), some (vI n), some (vI j), none], [vI 700, vI (F 2), vI f], LAY (u (u (u (u (shA A) 80 (wr (A 80) (F 16) t)) 81 (wr (A 81) (F 16) f)) 82 (wr (A 82) (F 16) n)) 83 (wr (A 83) (F 16) 1)) (u (shF F) 16 ((F 16) + 1)), 0, 0)) hc158 4 rfl trivial ?_
                        refine R_cs hc158 rfl rfl ?_ (fun r G h => h)
                        refine R_s (P := True) (f' := (2, [some (vI f), some (vI (F 2)), some (vI 700)], [vI (F 2), vI f], LAY (u (u (u (u (shA A) 80 (wr (A 80) (F 16) t)) 81 (wr (A 81) (F 16) f)) 82 (wr (A 82) (F 16) n)) 83 (wr (A 83) (F 16) 1)) (u (shF F) 16 ((F 16) + 1)), 0, 0)) hc104 2 rfl trivial ?_
                        refine R_ic (t := 14) hc104 rfl rfl (fun (z : f < F 2) => absurd z (by omega)) (fun (_ : ¬ (f < F 2)) => ?_)
                        refine R_s (P := True) (f' := (7, [some (vI f), some (vI (F 2)), some (vI 700)], [vI 700, vI f], LAY (u (u (u (u (shA A) 80 (wr (A 80) (F 16) t)) 81 (wr (A 81) (F 16) f)) 82 (wr (A 82) (F 16) n)) 83 (wr (A 83) (F 16) 1)) (u (shF F) 16 ((F 16) + 1)), 0, 0)) hc104 2 rfl trivial ?_
                        refine R_ic (t := 14) hc104 rfl rfl (fun (z : 700 < f) => absurd z (by omega)) (fun (_ : ¬ (700 < f)) => ?_)
                        refine R_s (P := True) (f' := (15, [some (vI f), some (vI (F 2)), some (vI 700)], [vI 1], LAY (u (u (u (u (shA A) 80 (wr (A 80) (F 16) t)) 81 (wr (A 81) (F 16) f)) 82 (wr (A 82) (F 16) n)) 83 (wr (A 83) (F 16) 1)) (u (shF F) 16 ((F 16) + 1)), 0, 0)) hc104 2 rfl trivial ?_
                        refine R_retz hc104 rfl rfl (Or.inr rfl) ?_
                        refine R_s (f' := (26, [some (vR 88), some (vI t), some (vI f), some (vI n), some (vI j), none], [vI 1], LAY (u (u (u (u (shA A) 80 (wr (A 80) (F 16) t)) 81 (wr (A 81) (F 16) f)) 82 (wr (A 82) (F 16) n)) 83 (wr (A 83) (F 16) 1)) (u (shF F) 16 ((F 16) + 1)), 0, 0)) hc158 0 rfl trivial ?_
                        refine R_if (t := 39) hc158 rfl rfl (fun (z : 1 = 0) => absurd z (by decide)) (fun (_ : ¬ (1 = 0)) => ?_)
                        refine R_s (P := True) (f' := (33, [some (vR 88), some (vI t), some (vI f), some (vI n), some (vI j), none], [vI 99, vI 1, vI n], LAY (u (u (u (u (shA A) 80 (wr (A 80) (F 16) t)) 81 (wr (A 81) (F 16) f)) 82 (wr (A 82) (F 16) n)) 83 (wr (A 83) (F 16) 1)) (u (shF F) 16 ((F 16) + 1)), 0, 0)) hc158 3 rfl trivial ?_
                        refine R_cs hc158 rfl rfl ?_ (fun r G h => h)
                        refine R_s (P := True) (f' := (2, [some (vI n), some (vI 1), some (vI 99)], [vI 1, vI n], LAY (u (u (u (u (shA A) 80 (wr (A 80) (F 16) t)) 81 (wr (A 81) (F 16) f)) 82 (wr (A 82) (F 16) n)) 83 (wr (A 83) (F 16) 1)) (u (shF F) 16 ((F 16) + 1)), 0, 0)) hc104 2 rfl trivial ?_
                        refine R_ic (t := 14) hc104 rfl rfl (fun (z : n < 1) => absurd z (by omega)) (fun (_ : ¬ (n < 1)) => ?_)
                        refine R_s (P := True) (f' := (7, [some (vI n), some (vI 1), some (vI 99)], [vI 99, vI n], LAY (u (u (u (u (shA A) 80 (wr (A 80) (F 16) t)) 81 (wr (A 81) (F 16) f)) 82 (wr (A 82) (F 16) n)) 83 (wr (A 83) (F 16) 1)) (u (shF F) 16 ((F 16) + 1)), 0, 0)) hc104 2 rfl trivial ?_
                        refine R_ic (t := 14) hc104 rfl rfl (fun (z : 99 < n) => absurd z (by omega)) (fun (_ : ¬ (99 < n)) => ?_)
                        refine R_s (P := True) (f' := (15, [some (vI n), some (vI 1), some (vI 99)], [vI 1], LAY (u (u (u (u (shA A) 80 (wr (A 80) (F 16) t)) 81 (wr (A 81) (F 16) f)) 82 (wr (A 82) (F 16) n)) 83 (wr (A 83) (F 16) 1)) (u (shF F) 16 ((F 16) + 1)), 0, 0)) hc104 2 rfl trivial ?_
                        refine R_retz hc104 rfl rfl (Or.inr rfl) ?_
                        refine R_s (f' := (36, [some (vR 88), some (vI t), some (vI f), some (vI n), some (vI j), none], [vI 1], LAY (u (u (u (u (shA A) 80 (wr (A 80) (F 16) t)) 81 (wr (A 81) (F 16) f)) 82 (wr (A 82) (F 16) n)) 83 (wr (A 83) (F 16) 1)) (u (shF F) 16 ((F 16) + 1)), 0, 0)) hc158 0 rfl trivial ?_
                        refine R_if (t := 46) hc158 rfl rfl (fun (_ : ¬ 1 = 0) => ?_) (fun (z : ¬ (¬ 1 = 0)) => absurd (by decide) z)
                        refine R_s (P := True) (f' := (52, [some (vR 88), some (vI t), some (vI f), some (vI n), some (vI j), none], [vI 30, vI (F 16)], LAY (u (u (u (u (shA A) 80 (wr (A 80) (F 16) t)) 81 (wr (A 81) (F 16) f)) 82 (wr (A 82) (F 16) n)) 83 (wr (A 83) (F 16) 1)) (u (shF F) 16 ((F 16) + 1)), 0, 0)) hc158 3 rfl trivial ?_
                        refine R_ic (t := 62) hc158 rfl rfl (fun (_ : ¬ F 16 = 30) => ?_) (fun (z : ¬ (¬ F 16 = 30)) => absurd (show ¬ F 16 = 30 by omega) z)
                        refine R_s (P := inI (f + n) ∧ inI ((f + n) - 1) ∧ True) (f' := (70, [some (vR 88), some (vI t), some (vI f), some (vI n), some (vI j), none], [vI ((f + n) - 1), vI f, vI t, vR 88], LAY (u (u (u (u (shA A) 80 (wr (A 80) (F 16) t)) 81 (wr (A 81) (F 16) f)) 82 (wr (A 82) (F 16) n)) 83 (wr (A 83) (F 16) 1)) (u (shF F) 16 ((F 16) + 1)), 0, 0)) hc158 8 rfl ⟨⟨by omega, by omega⟩, ⟨by omega, by omega⟩, trivial⟩ ?_
                        refine R_cv hc158 rfl rfl (l_isLeased (A := (u (u (u (u (shA A) 80 (wr (A 80) (F 16) t)) 81 (wr (A 81) (F 16) f)) 82 (wr (A 82) (F 16) n)) 83 (wr (A 83) (F 16) 1))) (F := (u (shF F) 16 ((F 16) + 1))) (T := A 80) (Fr := A 81) (Y := A 82) ⟨le1, le2⟩ (hL 102 (by decide)) (hL 83 (by decide)) (fun i (hi : (i : Int) < F 16) => hLE.1.2.2.1 i (by omega) hi) (fun i (hi : (i : Int) < F 16) => hLE.1.2.2.2 i (by omega) (by omega))) (fun r G9 hp9 => ?_)
                        obtain ⟨e1, rfl⟩ := hp9
                        have e2 : r = some (vI gv) := by
                          rw [show f + n - 1 + 1 = f + n by omega] at e1
                          rw [hgv, hcf]
                          exact e1
                        clear e1
                        subst e2
                        refine R_s (f' := (73, [some (vR 88), some (vI t), some (vI f), some (vI n), some (vI j), none], [vI gv], LAY (u (u (u (u (shA A) 80 (wr (A 80) (F 16) t)) 81 (wr (A 81) (F 16) f)) 82 (wr (A 82) (F 16) n)) 83 (wr (A 83) (F 16) 1)) (u (shF F) 16 ((F 16) + 1)), 0, 0)) hc158 0 rfl trivial ?_
                        refine R_if (t := 102) hc158 rfl rfl (fun (c134 : ¬ gv = 0) => ?_) (fun (c134 : ¬ (¬ gv = 0)) => ?_)
                        · refine R_s (P := inI (3 * (F 16)) ∧ (0 ≤ 3 * (F 16) ∧ 3 * (F 16) < ((A 102).length : Int)) ∧ inI (3 * (F 16)) ∧ inI ((3 * (F 16)) + 1) ∧ (0 ≤ (3 * (F 16)) + 1 ∧ (3 * (F 16)) + 1 < ((wr (A 102) (3 * (F 16)) t).length : Int)) ∧ inI (3 * (F 16)) ∧ inI ((3 * (F 16)) + 2) ∧ (0 ≤ (3 * (F 16)) + 2 ∧ (3 * (F 16)) + 2 < ((wr (wr (A 102) (3 * (F 16)) t) ((3 * (F 16)) + 1) f).length : Int)) ∧ ((0 ≤ F 16 ∧ F 16 < ((A 83).length : Int)) ∧ (0 = 0 ∨ 0 = 1)) ∧ inI ((F 16) + 1) ∧ inI (((F 16) + 1) - 1) ∧ True) (f' := (172, [some (vR 88), some (vI t), some (vI f), some (vI n), some (vI j), some (vI 0)], [vI (((F 16) + 1) - 1)], LAY (u (u (u (u (u (u (shA A) 80 (wr (A 80) (F 16) t)) 81 (wr (A 81) (F 16) f)) 82 (wr (A 82) (F 16) n)) 83 (wr (A 83) (F 16) 1)) 102 (wr (wr (wr (A 102) (3 * (F 16)) t) ((3 * (F 16)) + 1) f) ((3 * (F 16)) + 2) n)) 103 (wr (A 83) (F 16) 0)) (u (u (shF F) 16 ((F 16) + 1)) 22 ((F 16) + 1)), 0, 0)) hc158 46 rfl ⟨⟨by omega, by omega⟩, ⟨by omega, by omega⟩, ⟨by omega, by omega⟩, ⟨by omega, by omega⟩, ⟨by omega, by simp only [wr_len]; omega⟩, ⟨by omega, by omega⟩, ⟨by omega, by omega⟩, ⟨by omega, by simp only [wr_len]; omega⟩, ⟨⟨by omega, by omega⟩, by omega⟩, ⟨by omega, by omega⟩, ⟨by omega, by omega⟩, trivial⟩ ?_
                          refine R_reti hc158 rfl rfl ?_
                          first
                            | (exfalso; omega; done)
                            | exact ⟨(by rw [show ((F 16) + 1) - 1 = F 16 by omega]), (u (u (u (u (u A 80 (wr (A 80) (F 16) t)) 81 (wr (A 81) (F 16) f)) 82 (wr (A 82) (F 16) n)) 83 (wr (A 83) (F 16) 1)) 102 (wr (wr (wr (A 102) (3 * (F 16)) t) ((3 * (F 16)) + 1) f) ((3 * (F 16)) + 2) n)), (u F 16 ((F 16) + 1)), rfl, rfl, ⟨(LENS_u (LENS_u (LENS_u (LENS_u (LENS_u hL (by show (wr (A 80) (F 16) t).length = (A 80).length; simp only [wr_len])) (by show (wr (A 81) (F 16) f).length = (A 81).length; simp only [wr_len])) (by show (wr (A 82) (F 16) n).length = (A 82).length; simp only [wr_len])) (by show (wr (A 83) (F 16) 1).length = (A 83).length; simp only [wr_len])) (by show (wr (wr (wr (A 102) (3 * (F 16)) t) ((3 * (F 16)) + 1) f) ((3 * (F 16)) + 2) n).length = (A 102).length; simp only [wr_len])), hR0.2.1, hR0.2.2.1, hR0.2.2.2.1, hR0.2.2.2.2.1, ⟨LEAS_add hR0.2.2.2.2.2.1.1 (hL 80 (by decide)) (hL 81 (by decide)) (hL 82 (by decide)) (hL 83 (by decide)) (hL 102 (by decide)) (by omega) ⟨by omega, by omega⟩ ⟨by omega, by omega⟩ (by decide), hR0.2.2.2.2.2.1.2⟩, hR0.2.2.2.2.2.2.1, hR0.2.2.2.2.2.2.2.1, hR0.2.2.2.2.2.2.2.2.1, (REFU_c hR0.2.2.2.2.2.2.2.2.2)⟩⟩
                        · refine R_s (P := (0 ≤ t ∧ t < ((A 15).length : Int)) ∧ True) (f' := (82, [some (vR 88), some (vI t), some (vI f), some (vI n), some (vI j), none], [vI (rd (A 15) t)], LAY (u (u (u (u (shA A) 80 (wr (A 80) (F 16) t)) 81 (wr (A 81) (F 16) f)) 82 (wr (A 82) (F 16) n)) 83 (wr (A 83) (F 16) 1)) (u (shF F) 16 ((F 16) + 1)), 0, 0)) hc158 4 rfl ⟨⟨by omega, by omega⟩, trivial⟩ ?_
                          refine R_if (t := 102) hc158 rfl rfl (fun (z : ¬ rd (A 15) t = 0) => absurd z (by omega)) (fun (_ : ¬ (¬ rd (A 15) t = 0)) => ?_)
                          refine R_s (P := True) (f' := (90, [some (vR 88), some (vI t), some (vI f), some (vI n), some (vI j), none], [vI (F 17), vI n], LAY (u (u (u (u (shA A) 80 (wr (A 80) (F 16) t)) 81 (wr (A 81) (F 16) f)) 82 (wr (A 82) (F 16) n)) 83 (wr (A 83) (F 16) 1)) (u (shF F) 16 ((F 16) + 1)), 0, 0)) hc158 3 rfl trivial ?_
                          refine R_ic (t := 98) hc158 rfl rfl (fun (_ : n ≤ F 17) => ?_) (fun (z : ¬ (n ≤ F 17)) => absurd (show n ≤ F 17 by omega) z)
                          refine R_s (P := inI (3 * (F 16)) ∧ (0 ≤ 3 * (F 16) ∧ 3 * (F 16) < ((A 102).length : Int)) ∧ inI (3 * (F 16)) ∧ inI ((3 * (F 16)) + 1) ∧ (0 ≤ (3 * (F 16)) + 1 ∧ (3 * (F 16)) + 1 < ((wr (A 102) (3 * (F 16)) t).length : Int)) ∧ inI (3 * (F 16)) ∧ inI ((3 * (F 16)) + 2) ∧ (0 ≤ (3 * (F 16)) + 2 ∧ (3 * (F 16)) + 2 < ((wr (wr (A 102) (3 * (F 16)) t) ((3 * (F 16)) + 1) f).length : Int)) ∧ ((0 ≤ F 16 ∧ F 16 < ((A 83).length : Int)) ∧ (1 = 0 ∨ 1 = 1)) ∧ inI ((F 16) + 1) ∧ inI (((F 16) + 1) - 1) ∧ True) (f' := (172, [some (vR 88), some (vI t), some (vI f), some (vI n), some (vI j), some (vI 1)], [vI (((F 16) + 1) - 1)], LAY (u (u (u (u (u (u (shA A) 80 (wr (A 80) (F 16) t)) 81 (wr (A 81) (F 16) f)) 82 (wr (A 82) (F 16) n)) 83 (wr (A 83) (F 16) 1)) 102 (wr (wr (wr (A 102) (3 * (F 16)) t) ((3 * (F 16)) + 1) f) ((3 * (F 16)) + 2) n)) 103 (wr (A 83) (F 16) 1)) (u (u (shF F) 16 ((F 16) + 1)) 22 ((F 16) + 1)), 0, 0)) hc158 47 rfl ⟨⟨by omega, by omega⟩, ⟨by omega, by omega⟩, ⟨by omega, by omega⟩, ⟨by omega, by omega⟩, ⟨by omega, by simp only [wr_len]; omega⟩, ⟨by omega, by omega⟩, ⟨by omega, by omega⟩, ⟨by omega, by simp only [wr_len]; omega⟩, ⟨⟨by omega, by omega⟩, by omega⟩, ⟨by omega, by omega⟩, ⟨by omega, by omega⟩, trivial⟩ ?_
                          refine R_reti hc158 rfl rfl ?_
                          first
                            | (exfalso; omega; done)
                            | exact ⟨(by rw [show ((F 16) + 1) - 1 = F 16 by omega]), (u (u (u (u (u A 80 (wr (A 80) (F 16) t)) 81 (wr (A 81) (F 16) f)) 82 (wr (A 82) (F 16) n)) 83 (wr (A 83) (F 16) 1)) 102 (wr (wr (wr (A 102) (3 * (F 16)) t) ((3 * (F 16)) + 1) f) ((3 * (F 16)) + 2) n)), (u F 16 ((F 16) + 1)), rfl, rfl, ⟨(LENS_u (LENS_u (LENS_u (LENS_u (LENS_u hL (by show (wr (A 80) (F 16) t).length = (A 80).length; simp only [wr_len])) (by show (wr (A 81) (F 16) f).length = (A 81).length; simp only [wr_len])) (by show (wr (A 82) (F 16) n).length = (A 82).length; simp only [wr_len])) (by show (wr (A 83) (F 16) 1).length = (A 83).length; simp only [wr_len])) (by show (wr (wr (wr (A 102) (3 * (F 16)) t) ((3 * (F 16)) + 1) f) ((3 * (F 16)) + 2) n).length = (A 102).length; simp only [wr_len])), hR0.2.1, hR0.2.2.1, hR0.2.2.2.1, hR0.2.2.2.2.1, ⟨LEAS_add hR0.2.2.2.2.2.1.1 (hL 80 (by decide)) (hL 81 (by decide)) (hL 82 (by decide)) (hL 83 (by decide)) (hL 102 (by decide)) (by omega) ⟨by omega, by omega⟩ ⟨by omega, by omega⟩ (by decide), hR0.2.2.2.2.2.1.2⟩, hR0.2.2.2.2.2.2.1, hR0.2.2.2.2.2.2.2.1, hR0.2.2.2.2.2.2.2.2.1, (REFU_c hR0.2.2.2.2.2.2.2.2.2)⟩⟩
              · refine R_s (P := True) (f' := (66, [some (vR 1), some (vI t), some (vI f), some (vI n), some (vI j), none, none], [vI (-8), vR 1], LAY (shA A) (shF F), 0, 0)) hc83 2 rfl trivial ?_
                refine R_cv hc83 rfl rfl ?_ (fun r G h => h)
                refine R_s (P := True) (f' := (3, [some (vR 1), some (vI (-8))], [vI (-2), vI (-8)], LAY (shA A) (shF F), 0, 0)) hc93 2 rfl trivial ?_
                refine R_ic (t := 23) hc93 rfl rfl (fun (z : (-2) < (-8)) => absurd z (by decide)) (fun (_ : ¬ ((-2) < (-8))) => ?_)
                refine R_s (P := True) (f' := (9, [some (vR 1), some (vI (-8))], [vI (-8), vI (-8)], LAY (shA A) (shF F), 0, 0)) hc93 2 rfl trivial ?_
                refine R_ic (t := 23) hc93 rfl rfl (fun (z : (-8) < (-8)) => absurd z (by decide)) (fun (_ : ¬ ((-8) < (-8))) => ?_)
                refine R_s (P := inI 8 ∧ (0 ≤ 8 ∧ 8 < ((A 87).length : Int)) ∧ inI ((rd (A 87) 8) + 1) ∧ (0 ≤ 8 ∧ 8 < ((A 87).length : Int)) ∧ True) (f' := (24, [some (vR 1), some (vI (-8))], [vI (-8)], LAY (u (shA A) 87 (wr (A 87) 8 ((rd (A 87) 8) + 1))) (shF F), 0, 0)) hc93 10 rfl ⟨⟨by omega, by omega⟩, ⟨by omega, by omega⟩, ⟨by omega, by omega⟩, ⟨by omega, by omega⟩, trivial⟩ ?_
                refine R_reti hc93 rfl rfl ?_
                refine R_s (f' := (69, [some (vR 1), some (vI t), some (vI f), some (vI n), some (vI j), none, none], [vI (-8)], LAY (u (shA A) 87 (wr (A 87) 8 ((rd (A 87) 8) + 1))) (shF F), 0, 0)) hc83 0 rfl trivial ?_
                refine R_reti hc83 rfl rfl ⟨⟨_, rfl⟩, ⟨_, _, rfl, rfl⟩, ?_⟩
                refine R_s (P := True) (f' := (2, [some (vR 88), some (vI t), some (vI f), some (vI n), some (vI j), none], [vI t, vR 88], LAY (u (shA A) 87 (wr (A 87) 8 ((rd (A 87) 8) + 1))) (shF F), 0, 0)) hc158 2 rfl trivial ?_
                refine R_cv hc158 rfl rfl ?_ (fun r G h => h)
                refine R_s (P := inI ((F 4) - 1) ∧ True) (f' := (8, [some (vR 88), some (vI t)], [vI ((F 4) - 1), vI 0, vI t], LAY (u (shA A) 87 (wr (A 87) 8 ((rd (A 87) 8) + 1))) (shF F), 0, 0)) hc107 6 rfl ⟨⟨by omega, by omega⟩, trivial⟩ ?_
                refine R_cs hc107 rfl rfl ?_ (fun r G h => h)
                refine R_s (P := True) (f' := (2, [some (vI t), some (vI 0), some (vI ((F 4) - 1))], [vI 0, vI t], LAY (u (shA A) 87 (wr (A 87) 8 ((rd (A 87) 8) + 1))) (shF F), 0, 0)) hc104 2 rfl trivial ?_
                refine R_ic (t := 14) hc104 rfl rfl (fun (z : t < 0) => absurd z (by omega)) (fun (_ : ¬ (t < 0)) => ?_)
                refine R_s (P := True) (f' := (7, [some (vI t), some (vI 0), some (vI ((F 4) - 1))], [vI ((F 4) - 1), vI t], LAY (u (shA A) 87 (wr (A 87) 8 ((rd (A 87) 8) + 1))) (shF F), 0, 0)) hc104 2 rfl trivial ?_
                refine R_ic (t := 14) hc104 rfl rfl (fun (z : (F 4) - 1 < t) => absurd z (by omega)) (fun (_ : ¬ ((F 4) - 1 < t)) => ?_)
                refine R_s (P := True) (f' := (15, [some (vI t), some (vI 0), some (vI ((F 4) - 1))], [vI 1], LAY (u (shA A) 87 (wr (A 87) 8 ((rd (A 87) 8) + 1))) (shF F), 0, 0)) hc104 2 rfl trivial ?_
                refine R_retz hc104 rfl rfl (Or.inr rfl) ?_
                refine R_s (f' := (11, [some (vR 88), some (vI t)], [vI 1], LAY (u (shA A) 87 (wr (A 87) 8 ((rd (A 87) 8) + 1))) (shF F), 0, 0)) hc107 0 rfl trivial ?_
                refine R_retz hc107 rfl rfl (Or.inr rfl) ?_
                refine R_s (f' := (5, [some (vR 88), some (vI t), some (vI f), some (vI n), some (vI j), none], [vI 1], LAY (u (shA A) 87 (wr (A 87) 8 ((rd (A 87) 8) + 1))) (shF F), 0, 0)) hc158 0 rfl trivial ?_
                refine R_if (t := 15) hc158 rfl rfl (fun (_ : ¬ 1 = 0) => ?_) (fun (z : ¬ (¬ 1 = 0)) => absurd (by decide) z)
                refine R_s (P := True) (f' := (23, [some (vR 88), some (vI t), some (vI f), some (vI n), some (vI j), none], [vI 700, vI (F 2), vI f], LAY (u (shA A) 87 (wr (A 87) 8 ((rd (A 87) 8) + 1))) (shF F), 0, 0)) hc158 4 rfl trivial ?_
                refine R_cs hc158 rfl rfl ?_ (fun r G h => h)
                refine R_s (P := True) (f' := (2, [some (vI f), some (vI (F 2)), some (vI 700)], [vI (F 2), vI f], LAY (u (shA A) 87 (wr (A 87) 8 ((rd (A 87) 8) + 1))) (shF F), 0, 0)) hc104 2 rfl trivial ?_
                refine R_ic (t := 14) hc104 rfl rfl (fun (z : f < F 2) => absurd z (by omega)) (fun (_ : ¬ (f < F 2)) => ?_)
                refine R_s (P := True) (f' := (7, [some (vI f), some (vI (F 2)), some (vI 700)], [vI 700, vI f], LAY (u (shA A) 87 (wr (A 87) 8 ((rd (A 87) 8) + 1))) (shF F), 0, 0)) hc104 2 rfl trivial ?_
                refine R_ic (t := 14) hc104 rfl rfl (fun (z : 700 < f) => absurd z (by omega)) (fun (_ : ¬ (700 < f)) => ?_)
                refine R_s (P := True) (f' := (15, [some (vI f), some (vI (F 2)), some (vI 700)], [vI 1], LAY (u (shA A) 87 (wr (A 87) 8 ((rd (A 87) 8) + 1))) (shF F), 0, 0)) hc104 2 rfl trivial ?_
                refine R_retz hc104 rfl rfl (Or.inr rfl) ?_
                refine R_s (f' := (26, [some (vR 88), some (vI t), some (vI f), some (vI n), some (vI j), none], [vI 1], LAY (u (shA A) 87 (wr (A 87) 8 ((rd (A 87) 8) + 1))) (shF F), 0, 0)) hc158 0 rfl trivial ?_
                refine R_if (t := 39) hc158 rfl rfl (fun (z : 1 = 0) => absurd z (by decide)) (fun (_ : ¬ (1 = 0)) => ?_)
                refine R_s (P := True) (f' := (33, [some (vR 88), some (vI t), some (vI f), some (vI n), some (vI j), none], [vI 99, vI 1, vI n], LAY (u (shA A) 87 (wr (A 87) 8 ((rd (A 87) 8) + 1))) (shF F), 0, 0)) hc158 3 rfl trivial ?_
                refine R_cs hc158 rfl rfl ?_ (fun r G h => h)
                refine R_s (P := True) (f' := (2, [some (vI n), some (vI 1), some (vI 99)], [vI 1, vI n], LAY (u (shA A) 87 (wr (A 87) 8 ((rd (A 87) 8) + 1))) (shF F), 0, 0)) hc104 2 rfl trivial ?_
                refine R_ic (t := 14) hc104 rfl rfl (fun (z : n < 1) => absurd z (by omega)) (fun (_ : ¬ (n < 1)) => ?_)
                refine R_s (P := True) (f' := (7, [some (vI n), some (vI 1), some (vI 99)], [vI 99, vI n], LAY (u (shA A) 87 (wr (A 87) 8 ((rd (A 87) 8) + 1))) (shF F), 0, 0)) hc104 2 rfl trivial ?_
                refine R_ic (t := 14) hc104 rfl rfl (fun (z : 99 < n) => absurd z (by omega)) (fun (_ : ¬ (99 < n)) => ?_)
                refine R_s (P := True) (f' := (15, [some (vI n), some (vI 1), some (vI 99)], [vI 1], LAY (u (shA A) 87 (wr (A 87) 8 ((rd (A 87) 8) + 1))) (shF F), 0, 0)) hc104 2 rfl trivial ?_
                refine R_retz hc104 rfl rfl (Or.inr rfl) ?_
                refine R_s (f' := (36, [some (vR 88), some (vI t), some (vI f), some (vI n), some (vI j), none], [vI 1], LAY (u (shA A) 87 (wr (A 87) 8 ((rd (A 87) 8) + 1))) (shF F), 0, 0)) hc158 0 rfl trivial ?_
                refine R_if (t := 46) hc158 rfl rfl (fun (_ : ¬ 1 = 0) => ?_) (fun (z : ¬ (¬ 1 = 0)) => absurd (by decide) z)
                refine R_s (P := True) (f' := (52, [some (vR 88), some (vI t), some (vI f), some (vI n), some (vI j), none], [vI 30, vI (F 16)], LAY (u (shA A) 87 (wr (A 87) 8 ((rd (A 87) 8) + 1))) (shF F), 0, 0)) hc158 3 rfl trivial ?_
                refine R_ic (t := 62) hc158 rfl rfl (fun (z : ¬ F 16 = 30) => absurd z (by omega)) (fun (_ : ¬ (¬ F 16 = 30)) => ?_)
                refine R_s (P := True) (f' := (58, [some (vR 88), some (vI t), some (vI f), some (vI n), some (vI j), none], [vI (-8), vR 88], LAY (u (shA A) 87 (wr (A 87) 8 ((rd (A 87) 8) + 1))) (shF F), 0, 0)) hc158 2 rfl trivial ?_
                refine R_cv hc158 rfl rfl ?_ (fun r G h => h)
                refine R_s (P := inI 8 ∧ (0 ≤ 8 ∧ 8 < ((A 87).length : Int)) ∧ inI ((rd (A 87) 8) + 1) ∧ (0 ≤ 8 ∧ 8 < ((A 87).length : Int)) ∧ True) (f' := (12, [some (vR 88), some (vI (-8))], [vI (-8)], LAY (u (u (shA A) 87 (wr (A 87) 8 ((rd (A 87) 8) + 1))) 89 (wr (A 87) 8 ((rd (A 87) 8) + 1))) (shF F), 0, 0)) hc105 10 rfl ⟨⟨by omega, by omega⟩, ⟨by omega, by omega⟩, ⟨by omega, by omega⟩, ⟨by omega, by omega⟩, trivial⟩ ?_
                refine R_reti hc105 rfl rfl ?_
                refine R_s (f' := (61, [some (vR 88), some (vI t), some (vI f), some (vI n), some (vI j), none], [vI (-8)], LAY (u (u (shA A) 87 (wr (A 87) 8 ((rd (A 87) 8) + 1))) 89 (wr (A 87) 8 ((rd (A 87) 8) + 1))) (shF F), 0, 0)) hc158 0 rfl trivial ?_
                refine R_reti hc158 rfl rfl ?_
                first
                  | (exfalso; omega; done)
                  | exact ⟨rfl, (u A 87 (wr (A 87) 8 ((rd (A 87) 8) + 1))), F, rfl, rfl, REL_ref hR0 (by decide) (by decide)⟩
            · refine R_s (P := True) (f' := (47, [some (vR 1), some (vI t), some (vI f), some (vI n), some (vI j), none, none], [vI (-7), vR 1], LAY (shA A) (shF F), 0, 0)) hc83 2 rfl trivial ?_
              refine R_cv hc83 rfl rfl ?_ (fun r G h => h)
              refine R_s (P := True) (f' := (3, [some (vR 1), some (vI (-7))], [vI (-2), vI (-7)], LAY (shA A) (shF F), 0, 0)) hc93 2 rfl trivial ?_
              refine R_ic (t := 23) hc93 rfl rfl (fun (z : (-2) < (-7)) => absurd z (by decide)) (fun (_ : ¬ ((-2) < (-7))) => ?_)
              refine R_s (P := True) (f' := (9, [some (vR 1), some (vI (-7))], [vI (-8), vI (-7)], LAY (shA A) (shF F), 0, 0)) hc93 2 rfl trivial ?_
              refine R_ic (t := 23) hc93 rfl rfl (fun (z : (-7) < (-8)) => absurd z (by decide)) (fun (_ : ¬ ((-7) < (-8))) => ?_)
              refine R_s (P := inI 7 ∧ (0 ≤ 7 ∧ 7 < ((A 87).length : Int)) ∧ inI ((rd (A 87) 7) + 1) ∧ (0 ≤ 7 ∧ 7 < ((A 87).length : Int)) ∧ True) (f' := (24, [some (vR 1), some (vI (-7))], [vI (-7)], LAY (u (shA A) 87 (wr (A 87) 7 ((rd (A 87) 7) + 1))) (shF F), 0, 0)) hc93 10 rfl ⟨⟨by omega, by omega⟩, ⟨by omega, by omega⟩, ⟨by omega, by omega⟩, ⟨by omega, by omega⟩, trivial⟩ ?_
              refine R_reti hc93 rfl rfl ?_
              refine R_s (f' := (50, [some (vR 1), some (vI t), some (vI f), some (vI n), some (vI j), none, none], [vI (-7)], LAY (u (shA A) 87 (wr (A 87) 7 ((rd (A 87) 7) + 1))) (shF F), 0, 0)) hc83 0 rfl trivial ?_
              refine R_reti hc83 rfl rfl ⟨⟨_, rfl⟩, ⟨_, _, rfl, rfl⟩, ?_⟩
              refine R_s (P := True) (f' := (2, [some (vR 88), some (vI t), some (vI f), some (vI n), some (vI j), none], [vI t, vR 88], LAY (u (shA A) 87 (wr (A 87) 7 ((rd (A 87) 7) + 1))) (shF F), 0, 0)) hc158 2 rfl trivial ?_
              refine R_cv hc158 rfl rfl ?_ (fun r G h => h)
              refine R_s (P := inI ((F 4) - 1) ∧ True) (f' := (8, [some (vR 88), some (vI t)], [vI ((F 4) - 1), vI 0, vI t], LAY (u (shA A) 87 (wr (A 87) 7 ((rd (A 87) 7) + 1))) (shF F), 0, 0)) hc107 6 rfl ⟨⟨by omega, by omega⟩, trivial⟩ ?_
              refine R_cs hc107 rfl rfl ?_ (fun r G h => h)
              refine R_s (P := True) (f' := (2, [some (vI t), some (vI 0), some (vI ((F 4) - 1))], [vI 0, vI t], LAY (u (shA A) 87 (wr (A 87) 7 ((rd (A 87) 7) + 1))) (shF F), 0, 0)) hc104 2 rfl trivial ?_
              refine R_ic (t := 14) hc104 rfl rfl (fun (z : t < 0) => absurd z (by omega)) (fun (_ : ¬ (t < 0)) => ?_)
              refine R_s (P := True) (f' := (7, [some (vI t), some (vI 0), some (vI ((F 4) - 1))], [vI ((F 4) - 1), vI t], LAY (u (shA A) 87 (wr (A 87) 7 ((rd (A 87) 7) + 1))) (shF F), 0, 0)) hc104 2 rfl trivial ?_
              refine R_ic (t := 14) hc104 rfl rfl (fun (z : (F 4) - 1 < t) => absurd z (by omega)) (fun (_ : ¬ ((F 4) - 1 < t)) => ?_)
              refine R_s (P := True) (f' := (15, [some (vI t), some (vI 0), some (vI ((F 4) - 1))], [vI 1], LAY (u (shA A) 87 (wr (A 87) 7 ((rd (A 87) 7) + 1))) (shF F), 0, 0)) hc104 2 rfl trivial ?_
              refine R_retz hc104 rfl rfl (Or.inr rfl) ?_
              refine R_s (f' := (11, [some (vR 88), some (vI t)], [vI 1], LAY (u (shA A) 87 (wr (A 87) 7 ((rd (A 87) 7) + 1))) (shF F), 0, 0)) hc107 0 rfl trivial ?_
              refine R_retz hc107 rfl rfl (Or.inr rfl) ?_
              refine R_s (f' := (5, [some (vR 88), some (vI t), some (vI f), some (vI n), some (vI j), none], [vI 1], LAY (u (shA A) 87 (wr (A 87) 7 ((rd (A 87) 7) + 1))) (shF F), 0, 0)) hc158 0 rfl trivial ?_
              refine R_if (t := 15) hc158 rfl rfl (fun (_ : ¬ 1 = 0) => ?_) (fun (z : ¬ (¬ 1 = 0)) => absurd (by decide) z)
              refine R_s (P := True) (f' := (23, [some (vR 88), some (vI t), some (vI f), some (vI n), some (vI j), none], [vI 700, vI (F 2), vI f], LAY (u (shA A) 87 (wr (A 87) 7 ((rd (A 87) 7) + 1))) (shF F), 0, 0)) hc158 4 rfl trivial ?_
              refine R_cs hc158 rfl rfl ?_ (fun r G h => h)
              refine R_s (P := True) (f' := (2, [some (vI f), some (vI (F 2)), some (vI 700)], [vI (F 2), vI f], LAY (u (shA A) 87 (wr (A 87) 7 ((rd (A 87) 7) + 1))) (shF F), 0, 0)) hc104 2 rfl trivial ?_
              refine R_ic (t := 14) hc104 rfl rfl (fun (z : f < F 2) => absurd z (by omega)) (fun (_ : ¬ (f < F 2)) => ?_)
              refine R_s (P := True) (f' := (7, [some (vI f), some (vI (F 2)), some (vI 700)], [vI 700, vI f], LAY (u (shA A) 87 (wr (A 87) 7 ((rd (A 87) 7) + 1))) (shF F), 0, 0)) hc104 2 rfl trivial ?_
              refine R_ic (t := 14) hc104 rfl rfl (fun (z : 700 < f) => absurd z (by omega)) (fun (_ : ¬ (700 < f)) => ?_)
              refine R_s (P := True) (f' := (15, [some (vI f), some (vI (F 2)), some (vI 700)], [vI 1], LAY (u (shA A) 87 (wr (A 87) 7 ((rd (A 87) 7) + 1))) (shF F), 0, 0)) hc104 2 rfl trivial ?_
              refine R_retz hc104 rfl rfl (Or.inr rfl) ?_
              refine R_s (f' := (26, [some (vR 88), some (vI t), some (vI f), some (vI n), some (vI j), none], [vI 1], LAY (u (shA A) 87 (wr (A 87) 7 ((rd (A 87) 7) + 1))) (shF F), 0, 0)) hc158 0 rfl trivial ?_
              refine R_if (t := 39) hc158 rfl rfl (fun (z : 1 = 0) => absurd z (by decide)) (fun (_ : ¬ (1 = 0)) => ?_)
              refine R_s (P := True) (f' := (33, [some (vR 88), some (vI t), some (vI f), some (vI n), some (vI j), none], [vI 99, vI 1, vI n], LAY (u (shA A) 87 (wr (A 87) 7 ((rd (A 87) 7) + 1))) (shF F), 0, 0)) hc158 3 rfl trivial ?_
              refine R_cs hc158 rfl rfl ?_ (fun r G h => h)
              refine R_s (P := True) (f' := (2, [some (vI n), some (vI 1), some (vI 99)], [vI 1, vI n], LAY (u (shA A) 87 (wr (A 87) 7 ((rd (A 87) 7) + 1))) (shF F), 0, 0)) hc104 2 rfl trivial ?_
              refine R_ic (t := 14) hc104 rfl rfl (fun (z : n < 1) => absurd z (by omega)) (fun (_ : ¬ (n < 1)) => ?_)
              refine R_s (P := True) (f' := (7, [some (vI n), some (vI 1), some (vI 99)], [vI 99, vI n], LAY (u (shA A) 87 (wr (A 87) 7 ((rd (A 87) 7) + 1))) (shF F), 0, 0)) hc104 2 rfl trivial ?_
              refine R_ic (t := 14) hc104 rfl rfl (fun (_ : 99 < n) => ?_) (fun (z : ¬ (99 < n)) => absurd (show 99 < n by omega) z)
              refine R_s (P := True) (f' := (15, [some (vI n), some (vI 1), some (vI 99)], [vI 0], LAY (u (shA A) 87 (wr (A 87) 7 ((rd (A 87) 7) + 1))) (shF F), 0, 0)) hc104 1 rfl trivial ?_
              refine R_retz hc104 rfl rfl (Or.inl rfl) ?_
              refine R_s (f' := (36, [some (vR 88), some (vI t), some (vI f), some (vI n), some (vI j), none], [vI 0], LAY (u (shA A) 87 (wr (A 87) 7 ((rd (A 87) 7) + 1))) (shF F), 0, 0)) hc158 0 rfl trivial ?_
              refine R_if (t := 46) hc158 rfl rfl (fun (z : ¬ 0 = 0) => absurd z (by decide)) (fun (_ : ¬ (¬ 0 = 0)) => ?_)
              refine R_s (P := True) (f' := (42, [some (vR 88), some (vI t), some (vI f), some (vI n), some (vI j), none], [vI (-7), vR 88], LAY (u (shA A) 87 (wr (A 87) 7 ((rd (A 87) 7) + 1))) (shF F), 0, 0)) hc158 2 rfl trivial ?_
              refine R_cv hc158 rfl rfl ?_ (fun r G h => h)
              refine R_s (P := inI 7 ∧ (0 ≤ 7 ∧ 7 < ((A 87).length : Int)) ∧ inI ((rd (A 87) 7) + 1) ∧ (0 ≤ 7 ∧ 7 < ((A 87).length : Int)) ∧ True) (f' := (12, [some (vR 88), some (vI (-7))], [vI (-7)], LAY (u (u (shA A) 87 (wr (A 87) 7 ((rd (A 87) 7) + 1))) 89 (wr (A 87) 7 ((rd (A 87) 7) + 1))) (shF F), 0, 0)) hc105 10 rfl ⟨⟨by omega, by omega⟩, ⟨by omega, by omega⟩, ⟨by omega, by omega⟩, ⟨by omega, by omega⟩, trivial⟩ ?_
              refine R_reti hc105 rfl rfl ?_
              refine R_s (f' := (45, [some (vR 88), some (vI t), some (vI f), some (vI n), some (vI j), none], [vI (-7)], LAY (u (u (shA A) 87 (wr (A 87) 7 ((rd (A 87) 7) + 1))) 89 (wr (A 87) 7 ((rd (A 87) 7) + 1))) (shF F), 0, 0)) hc158 0 rfl trivial ?_
              refine R_reti hc158 rfl rfl ?_
              first
                | (exfalso; omega; done)
                | exact ⟨rfl, (u A 87 (wr (A 87) 7 ((rd (A 87) 7) + 1))), F, rfl, rfl, REL_ref hR0 (by decide) (by decide)⟩

set_option maxHeartbeats 8000000 in
theorem op_swap {c : Int} {A : Nat → List Int} {F : Nat → Int} (hR : REL c A F) (hc : c < 512) (t o j : Int) (i_t : inI t) (i_o : inI o) (i_j : inI j) (hj : j = 0 ∨ j = 1) : R 86 (0, L0 86 [vR 1, vI t, vI o, vI j], [], LAY (shA A) (shF F), 0, 0) (fun r G => (∃ x, r = some (vI x)) ∧ (∃ (A1 : Nat → List Int) (F1 : Nat → Int), G = LAY A1 F1 ∧ A1 0 = A 0) ∧ R 162 (0, L0 162 [vR 88, vI t, vI o, vI j], [], G, 0, 0) (fun r2 G2 => r2 = r ∧ ∃ (A' : Nat → List Int) (F' : Nat → Int), G2 = LAY (shA A') (shF F') ∧ A' 0 = A 0 ∧ REL (c + 1) A' F')) := by
  have hR0 := hR
  obtain ⟨hL, hPE, hTH, hTP, hDE, hLE, hNO, hAC, hRO, hRE⟩ := hR
  have j_t := i_t
  unfold inI at j_t
  have j_o := i_o
  unfold inI at j_o
  have j_j := i_j
  unfold inI at j_j
  have h87 : (A 87).length = 9 := hL 87 (by decide)
  have h13 : (A 13).length = 10 := hL 13 (by decide)
  have h15 : (A 15).length = 10 := hL 15 (by decide)
  have h16 : (A 16).length = 60 := hL 16 (by decide)
  have r2 := REFU_at hRE (k := 2) (by decide) (by decide) hc
  have r3 := REFU_at hRE (k := 3) (by decide) (by decide) hc
  have r4 := REFU_at hRE (k := 4) (by decide) (by decide) hc
  have r5 := REFU_at hRE (k := 5) (by decide) (by decide) hc
  have r6 := REFU_at hRE (k := 6) (by decide) (by decide) hc
  have r7 := REFU_at hRE (k := 7) (by decide) (by decide) hc
  have r8 := REFU_at hRE (k := 8) (by decide) (by decide) hc
  obtain ⟨t1, t2, t3, t4, t5, t6⟩ := hTH
  obtain ⟨p1, p2, p3, p4, p5, p6⟩ := hPE
  have le1 := hLE.1.1
  have le2 := hLE.1.2.1
  have w1 := t3 t
  have w2 := t3 o
  obtain ⟨cft, hcft⟩ : ∃ x, x = LFc (A 80) (A 81) (A 82) (A 83) t (F 2) 701 (F 16).toNat := ⟨_, rfl⟩
  obtain ⟨fvt, hfvt⟩ : ∃ x, x = if cft = 0 then (1 : Int) else 0 := ⟨_, rfl⟩
  have g1t : cft = 0 → fvt = 1 := fun h => by rw [hfvt, if_pos h]
  have g2t : ¬ cft = 0 → fvt = 0 := fun h => by rw [hfvt, if_neg h]
  obtain ⟨gvt, hgvt⟩ : ∃ x, x = if cft = 0 then (0 : Int) else 1 := ⟨_, rfl⟩
  have g3t : cft = 0 → gvt = 0 := fun h => by rw [hgvt, if_pos h]
  have g4t : ¬ cft = 0 → gvt = 1 := fun h => by rw [hgvt, if_neg h]
  obtain ⟨cfo, hcfo⟩ : ∃ x, x = LFc (A 80) (A 81) (A 82) (A 83) o (F 2) 701 (F 16).toNat := ⟨_, rfl⟩
  obtain ⟨fvo, hfvo⟩ : ∃ x, x = if cfo = 0 then (1 : Int) else 0 := ⟨_, rfl⟩
  have g1o : cfo = 0 → fvo = 1 := fun h => by rw [hfvo, if_pos h]
  have g2o : ¬ cfo = 0 → fvo = 0 := fun h => by rw [hfvo, if_neg h]
  obtain ⟨gvo, hgvo⟩ : ∃ x, x = if cfo = 0 then (0 : Int) else 1 := ⟨_, rfl⟩
  have g3o : cfo = 0 → gvo = 0 := fun h => by rw [hgvo, if_pos h]
  have g4o : ¬ cfo = 0 → gvo = 1 := fun h => by rw [hgvo, if_neg h]
  refine R_s (P := True) (f' := (5, [some (vR 1), some (vI t), some (vI o), some (vI j), none], [vI t, vR 12], LAY (shA A) (shF F), 0, 0)) hc86 3 rfl trivial ?_
  refine R_cv hc86 rfl rfl ?_ (fun r G h => h)
  refine R_s (P := True) (f' := (1, [some (vR 12), some (vI t)], [vI t], LAY (shA A) (shF F), 0, 0)) hc52 1 rfl trivial ?_
  refine R_if (t := 16) hc52 rfl rfl (fun (c1 : t < 0) => ?_) (fun (c1 : ¬ (t < 0)) => ?_)
  · refine R_s (P := True) (f' := (17, [some (vR 12), some (vI t)], [vI 0], LAY (shA A) (shF F), 0, 0)) hc52 1 rfl trivial ?_
    refine R_retz hc52 rfl rfl (Or.inl rfl) ?_
    refine R_s (f' := (8, [some (vR 1), some (vI t), some (vI o), some (vI j), none], [vI 0], LAY (shA A) (shF F), 0, 0)) hc86 0 rfl trivial ?_
    refine R_if (t := 22) hc86 rfl rfl (fun (_ : 0 = 0) => ?_) (fun (z : ¬ (0 = 0)) => absurd (by decide) z)
    refine R_s (P := True) (f' := (25, [some (vR 1), some (vI t), some (vI o), some (vI j), none], [vI (-3), vR 1], LAY (shA A) (shF F), 0, 0)) hc86 2 rfl trivial ?_
    refine R_cv hc86 rfl rfl ?_ (fun r G h => h)
    refine R_s (P := True) (f' := (3, [some (vR 1), some (vI (-3))], [vI (-2), vI (-3)], LAY (shA A) (shF F), 0, 0)) hc93 2 rfl trivial ?_
    refine R_ic (t := 23) hc93 rfl rfl (fun (z : (-2) < (-3)) => absurd z (by decide)) (fun (_ : ¬ ((-2) < (-3))) => ?_)
    refine R_s (P := True) (f' := (9, [some (vR 1), some (vI (-3))], [vI (-8), vI (-3)], LAY (shA A) (shF F), 0, 0)) hc93 2 rfl trivial ?_
    refine R_ic (t := 23) hc93 rfl rfl (fun (z : (-3) < (-8)) => absurd z (by decide)) (fun (_ : ¬ ((-3) < (-8))) => ?_)
    refine R_s (P := inI 3 ∧ (0 ≤ 3 ∧ 3 < ((A 87).length : Int)) ∧ inI ((rd (A 87) 3) + 1) ∧ (0 ≤ 3 ∧ 3 < ((A 87).length : Int)) ∧ True) (f' := (24, [some (vR 1), some (vI (-3))], [vI (-3)], LAY (u (shA A) 87 (wr (A 87) 3 ((rd (A 87) 3) + 1))) (shF F), 0, 0)) hc93 10 rfl ⟨⟨by omega, by omega⟩, ⟨by omega, by omega⟩, ⟨by omega, by omega⟩, ⟨by omega, by omega⟩, trivial⟩ ?_
    refine R_reti hc93 rfl rfl ?_
    refine R_s (f' := (28, [some (vR 1), some (vI t), some (vI o), some (vI j), none], [vI (-3)], LAY (u (shA A) 87 (wr (A 87) 3 ((rd (A 87) 3) + 1))) (shF F), 0, 0)) hc86 0 rfl trivial ?_
    refine R_reti hc86 rfl rfl ⟨⟨_, rfl⟩, ⟨_, _, rfl, rfl⟩, ?_⟩
    refine R_s (P := True) (f' := (2, [some (vR 88), some (vI t), some (vI o), some (vI j), none, none], [vI t, vR 88], LAY (u (shA A) 87 (wr (A 87) 3 ((rd (A 87) 3) + 1))) (shF F), 0, 0)) hc162 2 rfl trivial ?_
    refine R_cv hc162 rfl rfl ?_ (fun r G h => h)
    refine R_s (P := inI ((F 4) - 1) ∧ True) (f' := (8, [some (vR 88), some (vI t)], [vI ((F 4) - 1), vI 0, vI t], LAY (u (shA A) 87 (wr (A 87) 3 ((rd (A 87) 3) + 1))) (shF F), 0, 0)) hc107 6 rfl ⟨⟨by omega, by omega⟩, trivial⟩ ?_
    refine R_cs hc107 rfl rfl ?_ (fun r G h => h)
    refine R_s (P := True) (f' := (2, [some (vI t), some (vI 0), some (vI ((F 4) - 1))], [vI 0, vI t], LAY (u (shA A) 87 (wr (A 87) 3 ((rd (A 87) 3) + 1))) (shF F), 0, 0)) hc104 2 rfl trivial ?_
    refine R_ic (t := 14) hc104 rfl rfl (fun (_ : t < 0) => ?_) (fun (z : ¬ (t < 0)) => absurd (show t < 0 by omega) z)
    refine R_s (P := True) (f' := (15, [some (vI t), some (vI 0), some (vI ((F 4) - 1))], [vI 0], LAY (u (shA A) 87 (wr (A 87) 3 ((rd (A 87) 3) + 1))) (shF F), 0, 0)) hc104 1 rfl trivial ?_
    refine R_retz hc104 rfl rfl (Or.inl rfl) ?_
    refine R_s (f' := (11, [some (vR 88), some (vI t)], [vI 0], LAY (u (shA A) 87 (wr (A 87) 3 ((rd (A 87) 3) + 1))) (shF F), 0, 0)) hc107 0 rfl trivial ?_
    refine R_retz hc107 rfl rfl (Or.inl rfl) ?_
    refine R_s (f' := (5, [some (vR 88), some (vI t), some (vI o), some (vI j), none, none], [vI 0], LAY (u (shA A) 87 (wr (A 87) 3 ((rd (A 87) 3) + 1))) (shF F), 0, 0)) hc162 0 rfl trivial ?_
    refine R_if (t := 16) hc162 rfl rfl (fun (_ : 0 = 0) => ?_) (fun (z : ¬ (0 = 0)) => absurd (by decide) z)
    refine R_s (P := True) (f' := (19, [some (vR 88), some (vI t), some (vI o), some (vI j), none, none], [vI (-3), vR 88], LAY (u (shA A) 87 (wr (A 87) 3 ((rd (A 87) 3) + 1))) (shF F), 0, 0)) hc162 2 rfl trivial ?_
    refine R_cv hc162 rfl rfl ?_ (fun r G h => h)
    refine R_s (P := inI 3 ∧ (0 ≤ 3 ∧ 3 < ((A 87).length : Int)) ∧ inI ((rd (A 87) 3) + 1) ∧ (0 ≤ 3 ∧ 3 < ((A 87).length : Int)) ∧ True) (f' := (12, [some (vR 88), some (vI (-3))], [vI (-3)], LAY (u (u (shA A) 87 (wr (A 87) 3 ((rd (A 87) 3) + 1))) 89 (wr (A 87) 3 ((rd (A 87) 3) + 1))) (shF F), 0, 0)) hc105 10 rfl ⟨⟨by omega, by omega⟩, ⟨by omega, by omega⟩, ⟨by omega, by omega⟩, ⟨by omega, by omega⟩, trivial⟩ ?_
    refine R_reti hc105 rfl rfl ?_
    refine R_s (f' := (22, [some (vR 88), some (vI t), some (vI o), some (vI j), none, none], [vI (-3)], LAY (u (u (shA A) 87 (wr (A 87) 3 ((rd (A 87) 3) + 1))) 89 (wr (A 87) 3 ((rd (A 87) 3) + 1))) (shF F), 0, 0)) hc162 0 rfl trivial ?_
    refine R_reti hc162 rfl rfl ?_
    first
      | (exfalso; omega; done)
      | exact ⟨rfl, (u A 87 (wr (A 87) 3 ((rd (A 87) 3) + 1))), F, rfl, rfl, REL_ref hR0 (by decide) (by decide)⟩
  · refine R_s (P := True) (f' := (9, [some (vR 12), some (vI t)], [vI (F 4), vI t], LAY (shA A) (shF F), 0, 0)) hc52 3 rfl trivial ?_
    refine R_ic (t := 16) hc52 rfl rfl (fun (c2 : F 4 ≤ t) => ?_) (fun (c2 : ¬ (F 4 ≤ t)) => ?_)
    · refine R_s (P := True) (f' := (17, [some (vR 12), some (vI t)], [vI 0], LAY (shA A) (shF F), 0, 0)) hc52 1 rfl trivial ?_
      refine R_retz hc52 rfl rfl (Or.inl rfl) ?_
      refine R_s (f' := (8, [some (vR 1), some (vI t), some (vI o), some (vI j), none], [vI 0], LAY (shA A) (shF F), 0, 0)) hc86 0 rfl trivial ?_
      refine R_if (t := 22) hc86 rfl rfl (fun (_ : 0 = 0) => ?_) (fun (z : ¬ (0 = 0)) => absurd (by decide) z)
      refine R_s (P := True) (f' := (25, [some (vR 1), some (vI t), some (vI o), some (vI j), none], [vI (-3), vR 1], LAY (shA A) (shF F), 0, 0)) hc86 2 rfl trivial ?_
      refine R_cv hc86 rfl rfl ?_ (fun r G h => h)
      refine R_s (P := True) (f' := (3, [some (vR 1), some (vI (-3))], [vI (-2), vI (-3)], LAY (shA A) (shF F), 0, 0)) hc93 2 rfl trivial ?_
      refine R_ic (t := 23) hc93 rfl rfl (fun (z : (-2) < (-3)) => absurd z (by decide)) (fun (_ : ¬ ((-2) < (-3))) => ?_)
      refine R_s (P := True) (f' := (9, [some (vR 1), some (vI (-3))], [vI (-8), vI (-3)], LAY (shA A) (shF F), 0, 0)) hc93 2 rfl trivial ?_
      refine R_ic (t := 23) hc93 rfl rfl (fun (z : (-3) < (-8)) => absurd z (by decide)) (fun (_ : ¬ ((-3) < (-8))) => ?_)
      refine R_s (P := inI 3 ∧ (0 ≤ 3 ∧ 3 < ((A 87).length : Int)) ∧ inI ((rd (A 87) 3) + 1) ∧ (0 ≤ 3 ∧ 3 < ((A 87).length : Int)) ∧ True) (f' := (24, [some (vR 1), some (vI (-3))], [vI (-3)], LAY (u (shA A) 87 (wr (A 87) 3 ((rd (A 87) 3) + 1))) (shF F), 0, 0)) hc93 10 rfl ⟨⟨by omega, by omega⟩, ⟨by omega, by omega⟩, ⟨by omega, by omega⟩, ⟨by omega, by omega⟩, trivial⟩ ?_
      refine R_reti hc93 rfl rfl ?_
      refine R_s (f' := (28, [some (vR 1), some (vI t), some (vI o), some (vI j), none], [vI (-3)], LAY (u (shA A) 87 (wr (A 87) 3 ((rd (A 87) 3) + 1))) (shF F), 0, 0)) hc86 0 rfl trivial ?_
      refine R_reti hc86 rfl rfl ⟨⟨_, rfl⟩, ⟨_, _, rfl, rfl⟩, ?_⟩
      refine R_s (P := True) (f' := (2, [some (vR 88), some (vI t), some (vI o), some (vI j), none, none], [vI t, vR 88], LAY (u (shA A) 87 (wr (A 87) 3 ((rd (A 87) 3) + 1))) (shF F), 0, 0)) hc162 2 rfl trivial ?_
      refine R_cv hc162 rfl rfl ?_ (fun r G h => h)
      refine R_s (P := inI ((F 4) - 1) ∧ True) (f' := (8, [some (vR 88), some (vI t)], [vI ((F 4) - 1), vI 0, vI t], LAY (u (shA A) 87 (wr (A 87) 3 ((rd (A 87) 3) + 1))) (shF F), 0, 0)) hc107 6 rfl ⟨⟨by omega, by omega⟩, trivial⟩ ?_
      refine R_cs hc107 rfl rfl ?_ (fun r G h => h)
      refine R_s (P := True) (f' := (2, [some (vI t), some (vI 0), some (vI ((F 4) - 1))], [vI 0, vI t], LAY (u (shA A) 87 (wr (A 87) 3 ((rd (A 87) 3) + 1))) (shF F), 0, 0)) hc104 2 rfl trivial ?_
      refine R_ic (t := 14) hc104 rfl rfl (fun (z : t < 0) => absurd z (by omega)) (fun (_ : ¬ (t < 0)) => ?_)
      refine R_s (P := True) (f' := (7, [some (vI t), some (vI 0), some (vI ((F 4) - 1))], [vI ((F 4) - 1), vI t], LAY (u (shA A) 87 (wr (A 87) 3 ((rd (A 87) 3) + 1))) (shF F), 0, 0)) hc104 2 rfl trivial ?_
      refine R_ic (t := 14) hc104 rfl rfl (fun (_ : (F 4) - 1 < t) => ?_) (fun (z : ¬ ((F 4) - 1 < t)) => absurd (show (F 4) - 1 < t by omega) z)
      refine R_s (P := True) (f' := (15, [some (vI t), some (vI 0), some (vI ((F 4) - 1))], [vI 0], LAY (u (shA A) 87 (wr (A 87) 3 ((rd (A 87) 3) + 1))) (shF F), 0, 0)) hc104 1 rfl trivial ?_
      refine R_retz hc104 rfl rfl (Or.inl rfl) ?_
      refine R_s (f' := (11, [some (vR 88), some (vI t)], [vI 0], LAY (u (shA A) 87 (wr (A 87) 3 ((rd (A 87) 3) + 1))) (shF F), 0, 0)) hc107 0 rfl trivial ?_
      refine R_retz hc107 rfl rfl (Or.inl rfl) ?_
      refine R_s (f' := (5, [some (vR 88), some (vI t), some (vI o), some (vI j), none, none], [vI 0], LAY (u (shA A) 87 (wr (A 87) 3 ((rd (A 87) 3) + 1))) (shF F), 0, 0)) hc162 0 rfl trivial ?_
      refine R_if (t := 16) hc162 rfl rfl (fun (_ : 0 = 0) => ?_) (fun (z : ¬ (0 = 0)) => absurd (by decide) z)
      refine R_s (P := True) (f' := (19, [some (vR 88), some (vI t), some (vI o), some (vI j), none, none], [vI (-3), vR 88], LAY (u (shA A) 87 (wr (A 87) 3 ((rd (A 87) 3) + 1))) (shF F), 0, 0)) hc162 2 rfl trivial ?_
      refine R_cv hc162 rfl rfl ?_ (fun r G h => h)
      refine R_s (P := inI 3 ∧ (0 ≤ 3 ∧ 3 < ((A 87).length : Int)) ∧ inI ((rd (A 87) 3) + 1) ∧ (0 ≤ 3 ∧ 3 < ((A 87).length : Int)) ∧ True) (f' := (12, [some (vR 88), some (vI (-3))], [vI (-3)], LAY (u (u (shA A) 87 (wr (A 87) 3 ((rd (A 87) 3) + 1))) 89 (wr (A 87) 3 ((rd (A 87) 3) + 1))) (shF F), 0, 0)) hc105 10 rfl ⟨⟨by omega, by omega⟩, ⟨by omega, by omega⟩, ⟨by omega, by omega⟩, ⟨by omega, by omega⟩, trivial⟩ ?_
      refine R_reti hc105 rfl rfl ?_
      refine R_s (f' := (22, [some (vR 88), some (vI t), some (vI o), some (vI j), none, none], [vI (-3)], LAY (u (u (shA A) 87 (wr (A 87) 3 ((rd (A 87) 3) + 1))) 89 (wr (A 87) 3 ((rd (A 87) 3) + 1))) (shF F), 0, 0)) hc162 0 rfl trivial ?_
      refine R_reti hc162 rfl rfl ?_
      first
        | (exfalso; omega; done)
        | exact ⟨rfl, (u A 87 (wr (A 87) 3 ((rd (A 87) 3) + 1))), F, rfl, rfl, REL_ref hR0 (by decide) (by decide)⟩
    · refine R_s (P := True) (f' := (17, [some (vR 12), some (vI t)], [vI 1], LAY (shA A) (shF F), 0, 0)) hc52 2 rfl trivial ?_
      refine R_retz hc52 rfl rfl (Or.inr rfl) ?_
      refine R_s (f' := (8, [some (vR 1), some (vI t), some (vI o), some (vI j), none], [vI 1], LAY (shA A) (shF F), 0, 0)) hc86 0 rfl trivial ?_
      refine R_if (t := 22) hc86 rfl rfl (fun (z : 1 = 0) => absurd z (by decide)) (fun (_ : ¬ (1 = 0)) => ?_)
      refine R_s (P := True) (f' := (16, [some (vR 1), some (vI t), some (vI o), some (vI j), none], [vI o, vR 12], LAY (shA A) (shF F), 0, 0)) hc86 3 rfl trivial ?_
      refine R_cv hc86 rfl rfl ?_ (fun r G h => h)
      refine R_s (P := True) (f' := (1, [some (vR 12), some (vI o)], [vI o], LAY (shA A) (shF F), 0, 0)) hc52 1 rfl trivial ?_
      refine R_if (t := 16) hc52 rfl rfl (fun (c4 : o < 0) => ?_) (fun (c4 : ¬ (o < 0)) => ?_)
      · refine R_s (P := True) (f' := (17, [some (vR 12), some (vI o)], [vI 0], LAY (shA A) (shF F), 0, 0)) hc52 1 rfl trivial ?_
        refine R_retz hc52 rfl rfl (Or.inl rfl) ?_
        refine R_s (f' := (19, [some (vR 1), some (vI t), some (vI o), some (vI j), none], [vI 0], LAY (shA A) (shF F), 0, 0)) hc86 0 rfl trivial ?_
        refine R_if (t := 29) hc86 rfl rfl (fun (z : ¬ 0 = 0) => absurd z (by decide)) (fun (_ : ¬ (¬ 0 = 0)) => ?_)
        refine R_s (P := True) (f' := (25, [some (vR 1), some (vI t), some (vI o), some (vI j), none], [vI (-3), vR 1], LAY (shA A) (shF F), 0, 0)) hc86 2 rfl trivial ?_
        refine R_cv hc86 rfl rfl ?_ (fun r G h => h)
        refine R_s (P := True) (f' := (3, [some (vR 1), some (vI (-3))], [vI (-2), vI (-3)], LAY (shA A) (shF F), 0, 0)) hc93 2 rfl trivial ?_
        refine R_ic (t := 23) hc93 rfl rfl (fun (z : (-2) < (-3)) => absurd z (by decide)) (fun (_ : ¬ ((-2) < (-3))) => ?_)
        refine R_s (P := True) (f' := (9, [some (vR 1), some (vI (-3))], [vI (-8), vI (-3)], LAY (shA A) (shF F), 0, 0)) hc93 2 rfl trivial ?_
        refine R_ic (t := 23) hc93 rfl rfl (fun (z : (-3) < (-8)) => absurd z (by decide)) (fun (_ : ¬ ((-3) < (-8))) => ?_)
        refine R_s (P := inI 3 ∧ (0 ≤ 3 ∧ 3 < ((A 87).length : Int)) ∧ inI ((rd (A 87) 3) + 1) ∧ (0 ≤ 3 ∧ 3 < ((A 87).length : Int)) ∧ True) (f' := (24, [some (vR 1), some (vI (-3))], [vI (-3)], LAY (u (shA A) 87 (wr (A 87) 3 ((rd (A 87) 3) + 1))) (shF F), 0, 0)) hc93 10 rfl ⟨⟨by omega, by omega⟩, ⟨by omega, by omega⟩, ⟨by omega, by omega⟩, ⟨by omega, by omega⟩, trivial⟩ ?_
        refine R_reti hc93 rfl rfl ?_
        refine R_s (f' := (28, [some (vR 1), some (vI t), some (vI o), some (vI j), none], [vI (-3)], LAY (u (shA A) 87 (wr (A 87) 3 ((rd (A 87) 3) + 1))) (shF F), 0, 0)) hc86 0 rfl trivial ?_
        refine R_reti hc86 rfl rfl ⟨⟨_, rfl⟩, ⟨_, _, rfl, rfl⟩, ?_⟩
        refine R_s (P := True) (f' := (2, [some (vR 88), some (vI t), some (vI o), some (vI j), none, none], [vI t, vR 88], LAY (u (shA A) 87 (wr (A 87) 3 ((rd (A 87) 3) + 1))) (shF F), 0, 0)) hc162 2 rfl trivial ?_
        refine R_cv hc162 rfl rfl ?_ (fun r G h => h)
        refine R_s (P := inI ((F 4) - 1) ∧ True) (f' := (8, [some (vR 88), some (vI t)], [vI ((F 4) - 1), vI 0, vI t], LAY (u (shA A) 87 (wr (A 87) 3 ((rd (A 87) 3) + 1))) (shF F), 0, 0)) hc107 6 rfl ⟨⟨by omega, by omega⟩, trivial⟩ ?_
        refine R_cs hc107 rfl rfl ?_ (fun r G h => h)
        refine R_s (P := True) (f' := (2, [some (vI t), some (vI 0), some (vI ((F 4) - 1))], [vI 0, vI t], LAY (u (shA A) 87 (wr (A 87) 3 ((rd (A 87) 3) + 1))) (shF F), 0, 0)) hc104 2 rfl trivial ?_
        refine R_ic (t := 14) hc104 rfl rfl (fun (z : t < 0) => absurd z (by omega)) (fun (_ : ¬ (t < 0)) => ?_)
        refine R_s (P := True) (f' := (7, [some (vI t), some (vI 0), some (vI ((F 4) - 1))], [vI ((F 4) - 1), vI t], LAY (u (shA A) 87 (wr (A 87) 3 ((rd (A 87) 3) + 1))) (shF F), 0, 0)) hc104 2 rfl trivial ?_
        refine R_ic (t := 14) hc104 rfl rfl (fun (z : (F 4) - 1 < t) => absurd z (by omega)) (fun (_ : ¬ ((F 4) - 1 < t)) => ?_)
        refine R_s (P := True) (f' := (15, [some (vI t), some (vI 0), some (vI ((F 4) - 1))], [vI 1], LAY (u (shA A) 87 (wr (A 87) 3 ((rd (A 87) 3) + 1))) (shF F), 0, 0)) hc104 2 rfl trivial ?_
        refine R_retz hc104 rfl rfl (Or.inr rfl) ?_
        refine R_s (f' := (11, [some (vR 88), some (vI t)], [vI 1], LAY (u (shA A) 87 (wr (A 87) 3 ((rd (A 87) 3) + 1))) (shF F), 0, 0)) hc107 0 rfl trivial ?_
        refine R_retz hc107 rfl rfl (Or.inr rfl) ?_
        refine R_s (f' := (5, [some (vR 88), some (vI t), some (vI o), some (vI j), none, none], [vI 1], LAY (u (shA A) 87 (wr (A 87) 3 ((rd (A 87) 3) + 1))) (shF F), 0, 0)) hc162 0 rfl trivial ?_
        refine R_if (t := 16) hc162 rfl rfl (fun (z : 1 = 0) => absurd z (by decide)) (fun (_ : ¬ (1 = 0)) => ?_)
        refine R_s (P := True) (f' := (10, [some (vR 88), some (vI t), some (vI o), some (vI j), none, none], [vI o, vR 88], LAY (u (shA A) 87 (wr (A 87) 3 ((rd (A 87) 3) + 1))) (shF F), 0, 0)) hc162 2 rfl trivial ?_
        refine R_cv hc162 rfl rfl ?_ (fun r G h => h)
        refine R_s (P := inI ((F 4) - 1) ∧ True) (f' := (8, [some (vR 88), some (vI o)], [vI ((F 4) - 1), vI 0, vI o], LAY (u (shA A) 87 (wr (A 87) 3 ((rd (A 87) 3) + 1))) (shF F), 0, 0)) hc107 6 rfl ⟨⟨by omega, by omega⟩, trivial⟩ ?_
        refine R_cs hc107 rfl rfl ?_ (fun r G h => h)
        refine R_s (P := True) (f' := (2, [some (vI o), some (vI 0), some (vI ((F 4) - 1))], [vI 0, vI o], LAY (u (shA A) 87 (wr (A 87) 3 ((rd (A 87) 3) + 1))) (shF F), 0, 0)) hc104 2 rfl trivial ?_
        refine R_ic (t := 14) hc104 rfl rfl (fun (_ : o < 0) => ?_) (fun (z : ¬ (o < 0)) => absurd (show o < 0 by omega) z)
        refine R_s (P := True) (f' := (15, [some (vI o), some (vI 0), some (vI ((F 4) - 1))], [vI 0], LAY (u (shA A) 87 (wr (A 87) 3 ((rd (A 87) 3) + 1))) (shF F), 0, 0)) hc104 1 rfl trivial ?_
        refine R_retz hc104 rfl rfl (Or.inl rfl) ?_
        refine R_s (f' := (11, [some (vR 88), some (vI o)], [vI 0], LAY (u (shA A) 87 (wr (A 87) 3 ((rd (A 87) 3) + 1))) (shF F), 0, 0)) hc107 0 rfl trivial ?_
        refine R_retz hc107 rfl rfl (Or.inl rfl) ?_
        refine R_s (f' := (13, [some (vR 88), some (vI t), some (vI o), some (vI j), none, none], [vI 0], LAY (u (shA A) 87 (wr (A 87) 3 ((rd (A 87) 3) + 1))) (shF F), 0, 0)) hc162 0 rfl trivial ?_
        refine R_if (t := 23) hc162 rfl rfl (fun (z : ¬ 0 = 0) => absurd z (by decide)) (fun (_ : ¬ (¬ 0 = 0)) => ?_)
        refine R_s (P := True) (f' := (19, [some (vR 88), some (vI t), some (vI o), some (vI j), none, none], [vI (-3), vR 88], LAY (u (shA A) 87 (wr (A 87) 3 ((rd (A 87) 3) + 1))) (shF F), 0, 0)) hc162 2 rfl trivial ?_
        refine R_cv hc162 rfl rfl ?_ (fun r G h => h)
        refine R_s (P := inI 3 ∧ (0 ≤ 3 ∧ 3 < ((A 87).length : Int)) ∧ inI ((rd (A 87) 3) + 1) ∧ (0 ≤ 3 ∧ 3 < ((A 87).length : Int)) ∧ True) (f' := (12, [some (vR 88), some (vI (-3))], [vI (-3)], LAY (u (u (shA A) 87 (wr (A 87) 3 ((rd (A 87) 3) + 1))) 89 (wr (A 87) 3 ((rd (A 87) 3) + 1))) (shF F), 0, 0)) hc105 10 rfl ⟨⟨by omega, by omega⟩, ⟨by omega, by omega⟩, ⟨by omega, by omega⟩, ⟨by omega, by omega⟩, trivial⟩ ?_
        refine R_reti hc105 rfl rfl ?_
        refine R_s (f' := (22, [some (vR 88), some (vI t), some (vI o), some (vI j), none, none], [vI (-3)], LAY (u (u (shA A) 87 (wr (A 87) 3 ((rd (A 87) 3) + 1))) 89 (wr (A 87) 3 ((rd (A 87) 3) + 1))) (shF F), 0, 0)) hc162 0 rfl trivial ?_
        refine R_reti hc162 rfl rfl ?_
        first
          | (exfalso; omega; done)
          | exact ⟨rfl, (u A 87 (wr (A 87) 3 ((rd (A 87) 3) + 1))), F, rfl, rfl, REL_ref hR0 (by decide) (by decide)⟩
      · refine R_s (P := True) (f' := (9, [some (vR 12), some (vI o)], [vI (F 4), vI o], LAY (shA A) (shF F), 0, 0)) hc52 3 rfl trivial ?_
        refine R_ic (t := 16) hc52 rfl rfl (fun (c5 : F 4 ≤ o) => ?_) (fun (c5 : ¬ (F 4 ≤ o)) => ?_)
        · refine R_s (P := True) (f' := (17, [some (vR 12), some (vI o)], [vI 0], LAY (shA A) (shF F), 0, 0)) hc52 1 rfl trivial ?_
          refine R_retz hc52 rfl rfl (Or.inl rfl) ?_
          refine R_s (f' := (19, [some (vR 1), some (vI t), some (vI o), some (vI j), none], [vI 0], LAY (shA A) (shF F), 0, 0)) hc86 0 rfl trivial ?_
          refine R_if (t := 29) hc86 rfl rfl (fun (z : ¬ 0 = 0) => absurd z (by decide)) (fun (_ : ¬ (¬ 0 = 0)) => ?_)
          refine R_s (P := True) (f' := (25, [some (vR 1), some (vI t), some (vI o), some (vI j), none], [vI (-3), vR 1], LAY (shA A) (shF F), 0, 0)) hc86 2 rfl trivial ?_
          refine R_cv hc86 rfl rfl ?_ (fun r G h => h)
          refine R_s (P := True) (f' := (3, [some (vR 1), some (vI (-3))], [vI (-2), vI (-3)], LAY (shA A) (shF F), 0, 0)) hc93 2 rfl trivial ?_
          refine R_ic (t := 23) hc93 rfl rfl (fun (z : (-2) < (-3)) => absurd z (by decide)) (fun (_ : ¬ ((-2) < (-3))) => ?_)
          refine R_s (P := True) (f' := (9, [some (vR 1), some (vI (-3))], [vI (-8), vI (-3)], LAY (shA A) (shF F), 0, 0)) hc93 2 rfl trivial ?_
          refine R_ic (t := 23) hc93 rfl rfl (fun (z : (-3) < (-8)) => absurd z (by decide)) (fun (_ : ¬ ((-3) < (-8))) => ?_)
          refine R_s (P := inI 3 ∧ (0 ≤ 3 ∧ 3 < ((A 87).length : Int)) ∧ inI ((rd (A 87) 3) + 1) ∧ (0 ≤ 3 ∧ 3 < ((A 87).length : Int)) ∧ True) (f' := (24, [some (vR 1), some (vI (-3))], [vI (-3)], LAY (u (shA A) 87 (wr (A 87) 3 ((rd (A 87) 3) + 1))) (shF F), 0, 0)) hc93 10 rfl ⟨⟨by omega, by omega⟩, ⟨by omega, by omega⟩, ⟨by omega, by omega⟩, ⟨by omega, by omega⟩, trivial⟩ ?_
          refine R_reti hc93 rfl rfl ?_
          refine R_s (f' := (28, [some (vR 1), some (vI t), some (vI o), some (vI j), none], [vI (-3)], LAY (u (shA A) 87 (wr (A 87) 3 ((rd (A 87) 3) + 1))) (shF F), 0, 0)) hc86 0 rfl trivial ?_
          refine R_reti hc86 rfl rfl ⟨⟨_, rfl⟩, ⟨_, _, rfl, rfl⟩, ?_⟩
          refine R_s (P := True) (f' := (2, [some (vR 88), some (vI t), some (vI o), some (vI j), none, none], [vI t, vR 88], LAY (u (shA A) 87 (wr (A 87) 3 ((rd (A 87) 3) + 1))) (shF F), 0, 0)) hc162 2 rfl trivial ?_
          refine R_cv hc162 rfl rfl ?_ (fun r G h => h)
          refine R_s (P := inI ((F 4) - 1) ∧ True) (f' := (8, [some (vR 88), some (vI t)], [vI ((F 4) - 1), vI 0, vI t], LAY (u (shA A) 87 (wr (A 87) 3 ((rd (A 87) 3) + 1))) (shF F), 0, 0)) hc107 6 rfl ⟨⟨by omega, by omega⟩, trivial⟩ ?_
          refine R_cs hc107 rfl rfl ?_ (fun r G h => h)
          refine R_s (P := True) (f' := (2, [some (vI t), some (vI 0), some (vI ((F 4) - 1))], [vI 0, vI t], LAY (u (shA A) 87 (wr (A 87) 3 ((rd (A 87) 3) + 1))) (shF F), 0, 0)) hc104 2 rfl trivial ?_
          refine R_ic (t := 14) hc104 rfl rfl (fun (z : t < 0) => absurd z (by omega)) (fun (_ : ¬ (t < 0)) => ?_)
          refine R_s (P := True) (f' := (7, [some (vI t), some (vI 0), some (vI ((F 4) - 1))], [vI ((F 4) - 1), vI t], LAY (u (shA A) 87 (wr (A 87) 3 ((rd (A 87) 3) + 1))) (shF F), 0, 0)) hc104 2 rfl trivial ?_
          refine R_ic (t := 14) hc104 rfl rfl (fun (z : (F 4) - 1 < t) => absurd z (by omega)) (fun (_ : ¬ ((F 4) - 1 < t)) => ?_)
          refine R_s (P := True) (f' := (15, [some (vI t), some (vI 0), some (vI ((F 4) - 1))], [vI 1], LAY (u (shA A) 87 (wr (A 87) 3 ((rd (A 87) 3) + 1))) (shF F), 0, 0)) hc104 2 rfl trivial ?_
          refine R_retz hc104 rfl rfl (Or.inr rfl) ?_
          refine R_s (f' := (11, [some (vR 88), some (vI t)], [vI 1], LAY (u (shA A) 87 (wr (A 87) 3 ((rd (A 87) 3) + 1))) (shF F), 0, 0)) hc107 0 rfl trivial ?_
          refine R_retz hc107 rfl rfl (Or.inr rfl) ?_
          refine R_s (f' := (5, [some (vR 88), some (vI t), some (vI o), some (vI j), none, none], [vI 1], LAY (u (shA A) 87 (wr (A 87) 3 ((rd (A 87) 3) + 1))) (shF F), 0, 0)) hc162 0 rfl trivial ?_
          refine R_if (t := 16) hc162 rfl rfl (fun (z : 1 = 0) => absurd z (by decide)) (fun (_ : ¬ (1 = 0)) => ?_)
          refine R_s (P := True) (f' := (10, [some (vR 88), some (vI t), some (vI o), some (vI j), none, none], [vI o, vR 88], LAY (u (shA A) 87 (wr (A 87) 3 ((rd (A 87) 3) + 1))) (shF F), 0, 0)) hc162 2 rfl trivial ?_
          refine R_cv hc162 rfl rfl ?_ (fun r G h => h)
          refine R_s (P := inI ((F 4) - 1) ∧ True) (f' := (8, [some (vR 88), some (vI o)], [vI ((F 4) - 1), vI 0, vI o], LAY (u (shA A) 87 (wr (A 87) 3 ((rd (A 87) 3) + 1))) (shF F), 0, 0)) hc107 6 rfl ⟨⟨by omega, by omega⟩, trivial⟩ ?_
          refine R_cs hc107 rfl rfl ?_ (fun r G h => h)
          refine R_s (P := True) (f' := (2, [some (vI o), some (vI 0), some (vI ((F 4) - 1))], [vI 0, vI o], LAY (u (shA A) 87 (wr (A 87) 3 ((rd (A 87) 3) + 1))) (shF F), 0, 0)) hc104 2 rfl trivial ?_
          refine R_ic (t := 14) hc104 rfl rfl (fun (z : o < 0) => absurd z (by omega)) (fun (_ : ¬ (o < 0)) => ?_)
          refine R_s (P := True) (f' := (7, [some (vI o), some (vI 0), some (vI ((F 4) - 1))], [vI ((F 4) - 1), vI o], LAY (u (shA A) 87 (wr (A 87) 3 ((rd (A 87) 3) + 1))) (shF F), 0, 0)) hc104 2 rfl trivial ?_
          refine R_ic (t := 14) hc104 rfl rfl (fun (_ : (F 4) - 1 < o) => ?_) (fun (z : ¬ ((F 4) - 1 < o)) => absurd (show (F 4) - 1 < o by omega) z)
          refine R_s (P := True) (f' := (15, [some (vI o), some (vI 0), some (vI ((F 4) - 1))], [vI 0], LAY (u (shA A) 87 (wr (A 87) 3 ((rd (A 87) 3) + 1))) (shF F), 0, 0)) hc104 1 rfl trivial ?_
          refine R_retz hc104 rfl rfl (Or.inl rfl) ?_
          refine R_s (f' := (11, [some (vR 88), some (vI o)], [vI 0], LAY (u (shA A) 87 (wr (A 87) 3 ((rd (A 87) 3) + 1))) (shF F), 0, 0)) hc107 0 rfl trivial ?_
          refine R_retz hc107 rfl rfl (Or.inl rfl) ?_
          refine R_s (f' := (13, [some (vR 88), some (vI t), some (vI o), some (vI j), none, none], [vI 0], LAY (u (shA A) 87 (wr (A 87) 3 ((rd (A 87) 3) + 1))) (shF F), 0, 0)) hc162 0 rfl trivial ?_
          refine R_if (t := 23) hc162 rfl rfl (fun (z : ¬ 0 = 0) => absurd z (by decide)) (fun (_ : ¬ (¬ 0 = 0)) => ?_)
          refine R_s (P := True) (f' := (19, [some (vR 88), some (vI t), some (vI o), some (vI j), none, none], [vI (-3), vR 88], LAY (u (shA A) 87 (wr (A 87) 3 ((rd (A 87) 3) + 1))) (shF F), 0, 0)) hc162 2 rfl trivial ?_
          refine R_cv hc162 rfl rfl ?_ (fun r G h => h)
          refine R_s (P := inI 3 ∧ (0 ≤ 3 ∧ 3 < ((A 87).length : Int)) ∧ inI ((rd (A 87) 3) + 1) ∧ (0 ≤ 3 ∧ 3 < ((A 87).length : Int)) ∧ True) (f' := (12, [some (vR 88), some (vI (-3))], [vI (-3)], LAY (u (u (shA A) 87 (wr (A 87) 3 ((rd (A 87) 3) + 1))) 89 (wr (A 87) 3 ((rd (A 87) 3) + 1))) (shF F), 0, 0)) hc105 10 rfl ⟨⟨by omega, by omega⟩, ⟨by omega, by omega⟩, ⟨by omega, by omega⟩, ⟨by omega, by omega⟩, trivial⟩ ?_
          refine R_reti hc105 rfl rfl ?_
          refine R_s (f' := (22, [some (vR 88), some (vI t), some (vI o), some (vI j), none, none], [vI (-3)], LAY (u (u (shA A) 87 (wr (A 87) 3 ((rd (A 87) 3) + 1))) 89 (wr (A 87) 3 ((rd (A 87) 3) + 1))) (shF F), 0, 0)) hc162 0 rfl trivial ?_
          refine R_reti hc162 rfl rfl ?_
          first
            | (exfalso; omega; done)
            | exact ⟨rfl, (u A 87 (wr (A 87) 3 ((rd (A 87) 3) + 1))), F, rfl, rfl, REL_ref hR0 (by decide) (by decide)⟩
        · refine R_s (P := True) (f' := (17, [some (vR 12), some (vI o)], [vI 1], LAY (shA A) (shF F), 0, 0)) hc52 2 rfl trivial ?_
          refine R_retz hc52 rfl rfl (Or.inr rfl) ?_
          refine R_s (f' := (19, [some (vR 1), some (vI t), some (vI o), some (vI j), none], [vI 1], LAY (shA A) (shF F), 0, 0)) hc86 0 rfl trivial ?_
          refine R_if (t := 29) hc86 rfl rfl (fun (_ : ¬ 1 = 0) => ?_) (fun (z : ¬ (¬ 1 = 0)) => absurd (by decide) z)
          refine R_s (P := True) (f' := (31, [some (vR 1), some (vI t), some (vI o), some (vI j), none], [vI o, vI t], LAY (shA A) (shF F), 0, 0)) hc86 2 rfl trivial ?_
          refine R_ic (t := 41) hc86 rfl rfl (fun (c7 : ¬ t = o) => ?_) (fun (c7 : ¬ (¬ t = o)) => ?_)
          · refine R_s (P := True) (f' := (42, [some (vR 1), some (vI t), some (vI o), some (vI j), none], [vI j], LAY (shA A) (shF F), 0, 0)) hc86 1 rfl trivial ?_
            refine R_if (t := 91) hc86 rfl rfl (fun (c8 : j = 0) => ?_) (fun (c8 : ¬ (j = 0)) => ?_)
            · refine R_s (P := True) (f' := (96, [some (vR 1), some (vI t), some (vI o), some (vI j), some (vI 0)], [vI 0], LAY (shA A) (shF F), 0, 0)) hc86 3 rfl trivial ?_
              refine R_if (t := 108) hc86 rfl rfl (fun (_ : 0 = 0) => ?_) (fun (z : ¬ (0 = 0)) => absurd (by decide) z)
              refine R_s (P := True) (f' := (110, [some (vR 1), some (vI t), some (vI o), some (vI j), some (vI 0)], [vI 0], LAY (shA A) (shF F), 0, 0)) hc86 1 rfl trivial ?_
              refine R_cs hc86 rfl rfl ?_ (fun r G h => h)
              refine R_s (P := True) (f' := (1, [some (vI 0)], [vI 0], LAY (shA A) (shF F), 0, 0)) hc95 1 rfl trivial ?_
              refine R_if (t := 8) hc95 rfl rfl (fun (_ : 0 = 0) => ?_) (fun (z : ¬ (0 = 0)) => absurd (by decide) z)
              refine R_s (P := True) (f' := (9, [some (vI 0)], [vI 0], LAY (shA A) (shF F), 0, 0)) hc95 1 rfl trivial ?_
              refine R_reti hc95 rfl rfl ?_
              refine R_s (f' := (113, [some (vR 1), some (vI t), some (vI o), some (vI j), some (vI 0)], [vI 0], LAY (shA A) (shF F), 0, 0)) hc86 0 rfl trivial ?_
              refine R_reti hc86 rfl rfl ⟨⟨_, rfl⟩, ⟨_, _, rfl, rfl⟩, ?_⟩
              refine R_s (P := True) (f' := (2, [some (vR 88), some (vI t), some (vI o), some (vI j), none, none], [vI t, vR 88], LAY (shA A) (shF F), 0, 0)) hc162 2 rfl trivial ?_
              refine R_cv hc162 rfl rfl ?_ (fun r G h => h)
              refine R_s (P := inI ((F 4) - 1) ∧ True) (f' := (8, [some (vR 88), some (vI t)], [vI ((F 4) - 1), vI 0, vI t], LAY (shA A) (shF F), 0, 0)) hc107 6 rfl ⟨⟨by omega, by omega⟩, trivial⟩ ?_
              refine R_cs hc107 rfl rfl ?_ (fun r G h => h)
              refine R_s (P := True) (f' := (2, [some (vI t), some (vI 0), some (vI ((F 4) - 1))], [vI 0, vI t], LAY (shA A) (shF F), 0, 0)) hc104 2 rfl trivial ?_
              refine R_ic (t := 14) hc104 rfl rfl (fun (z : t < 0) => absurd z (by omega)) (fun (_ : ¬ (t < 0)) => ?_)
              refine R_s (P := True) (f' := (7, [some (vI t), some (vI 0), some (vI ((F 4) - 1))], [vI ((F 4) - 1), vI t], LAY (shA A) (shF F), 0, 0)) hc104 2 rfl trivial ?_
              refine R_ic (t := 14) hc104 rfl rfl (fun (z : (F 4) - 1 < t) => absurd z (by omega)) (fun (_ : ¬ ((F 4) - 1 < t)) => ?_)
              refine R_s (P := True) (f' := (15, [some (vI t), some (vI 0), some (vI ((F 4) - 1))], [vI 1], LAY (shA A) (shF F), 0, 0)) hc104 2 rfl trivial ?_
              refine R_retz hc104 rfl rfl (Or.inr rfl) ?_
              refine R_s (f' := (11, [some (vR 88), some (vI t)], [vI 1], LAY (shA A) (shF F), 0, 0)) hc107 0 rfl trivial ?_
              refine R_retz hc107 rfl rfl (Or.inr rfl) ?_
              refine R_s (f' := (5, [some (vR 88), some (vI t), some (vI o), some (vI j), none, none], [vI 1], LAY (shA A) (shF F), 0, 0)) hc162 0 rfl trivial ?_
              refine R_if (t := 16) hc162 rfl rfl (fun (z : 1 = 0) => absurd z (by decide)) (fun (_ : ¬ (1 = 0)) => ?_)
              refine R_s (P := True) (f' := (10, [some (vR 88), some (vI t), some (vI o), some (vI j), none, none], [vI o, vR 88], LAY (shA A) (shF F), 0, 0)) hc162 2 rfl trivial ?_
              refine R_cv hc162 rfl rfl ?_ (fun r G h => h)
              refine R_s (P := inI ((F 4) - 1) ∧ True) (f' := (8, [some (vR 88), some (vI o)], [vI ((F 4) - 1), vI 0, vI o], LAY (shA A) (shF F), 0, 0)) hc107 6 rfl ⟨⟨by omega, by omega⟩, trivial⟩ ?_
              refine R_cs hc107 rfl rfl ?_ (fun r G h => h)
              refine R_s (P := True) (f' := (2, [some (vI o), some (vI 0), some (vI ((F 4) - 1))], [vI 0, vI o], LAY (shA A) (shF F), 0, 0)) hc104 2 rfl trivial ?_
              refine R_ic (t := 14) hc104 rfl rfl (fun (z : o < 0) => absurd z (by omega)) (fun (_ : ¬ (o < 0)) => ?_)
              refine R_s (P := True) (f' := (7, [some (vI o), some (vI 0), some (vI ((F 4) - 1))], [vI ((F 4) - 1), vI o], LAY (shA A) (shF F), 0, 0)) hc104 2 rfl trivial ?_
              refine R_ic (t := 14) hc104 rfl rfl (fun (z : (F 4) - 1 < o) => absurd z (by omega)) (fun (_ : ¬ ((F 4) - 1 < o)) => ?_)
              refine R_s (P := True) (f' := (15, [some (vI o), some (vI 0), some (vI ((F 4) - 1))], [vI 1], LAY (shA A) (shF F), 0, 0)) hc104 2 rfl trivial ?_
              refine R_retz hc104 rfl rfl (Or.inr rfl) ?_
              refine R_s (f' := (11, [some (vR 88), some (vI o)], [vI 1], LAY (shA A) (shF F), 0, 0)) hc107 0 rfl trivial ?_
              refine R_retz hc107 rfl rfl (Or.inr rfl) ?_
              refine R_s (f' := (13, [some (vR 88), some (vI t), some (vI o), some (vI j), none, none], [vI 1], LAY (shA A) (shF F), 0, 0)) hc162 0 rfl trivial ?_
              refine R_if (t := 23) hc162 rfl rfl (fun (_ : ¬ 1 = 0) => ?_) (fun (z : ¬ (¬ 1 = 0)) => absurd (by decide) z)
              refine R_s (P := True) (f' := (25, [some (vR 88), some (vI t), some (vI o), some (vI j), none, none], [vI o, vI t], LAY (shA A) (shF F), 0, 0)) hc162 2 rfl trivial ?_
              refine R_ic (t := 35) hc162 rfl rfl (fun (_ : ¬ t = o) => ?_) (fun (z : ¬ (¬ t = o)) => absurd (show ¬ t = o by omega) z)
              refine R_s (P := True) (f' := (36, [some (vR 88), some (vI t), some (vI o), some (vI j), none, none], [vI j], LAY (shA A) (shF F), 0, 0)) hc162 1 rfl trivial ?_
              refine R_if (t := 87) hc162 rfl rfl (fun (_ : j = 0) => ?_) (fun (z : ¬ (j = 0)) => absurd (show j = 0 by omega) z)
              refine R_s (P := True) (f' := (88, [some (vR 88), some (vI t), some (vI o), some (vI j), none, none], [vI 0], LAY (shA A) (shF F), 0, 0)) hc162 1 rfl trivial ?_
              refine R_reti hc162 rfl rfl ?_
              first
                | (exfalso; omega; done)
                | exact ⟨rfl, A, F, rfl, rfl, REL_c hR0⟩
            · refine R_s (P := True) (f' := (51, [some (vR 1), some (vI t), some (vI o), some (vI j), none], [vI o, vI t, vR 12], LAY (shA A) (shF F), 0, 0)) hc86 4 rfl trivial ?_
              refine R_cv hc86 rfl rfl ?_ (fun r G h => h)
              refine R_s (P := (0 ≤ t ∧ t < ((A 13).length : Int)) ∧ (0 ≤ o ∧ o < ((A 13).length : Int)) ∧ inI ((rd (A 13) t) - (rd (A 13) o)) ∧ (0 ≤ t ∧ t < ((A 13).length : Int)) ∧ (0 ≤ rd (A 13) t ∧ 0 < 10) ∧ True) (f' := (24, [some (vR 12), some (vI t), some (vI o), some (vI ((rd (A 13) t) - (rd (A 13) o)))], [vI ((rd (A 13) t) / 10), vI ((rd (A 13) t) - (rd (A 13) o))], LAY (shA A) (shF F), 0, 0)) hc57 17 rfl ⟨⟨by omega, by omega⟩, ⟨by omega, by omega⟩, ⟨by omega, by omega⟩, ⟨by omega, by omega⟩, ⟨by omega, by omega⟩, trivial⟩ ?_
              refine R_ic (t := 45) hc57 rfl rfl (fun (c11 : (rd (A 13) t) / 10 < (rd (A 13) t) - (rd (A 13) o)) => ?_) (fun (c11 : ¬ ((rd (A 13) t) / 10 < (rd (A 13) t) - (rd (A 13) o))) => ?_)
              · refine R_s (P := True) (f' := (46, [some (vR 12), some (vI t), some (vI o), some (vI ((rd (A 13) t) - (rd (A 13) o)))], [vI 0], LAY (shA A) (shF F), 0, 0)) hc57 1 rfl trivial ?_
                refine R_retz hc57 rfl rfl (Or.inl rfl) ?_
                refine R_s (f' := (54, [some (vR 1), some (vI t), some (vI o), some (vI j), none], [vI 0], LAY (shA A) (shF F), 0, 0)) hc86 0 rfl trivial ?_
                refine R_if (t := 91) hc86 rfl rfl (fun (_ : 0 = 0) => ?_) (fun (z : ¬ (0 = 0)) => absurd (by decide) z)
                refine R_s (P := True) (f' := (96, [some (vR 1), some (vI t), some (vI o), some (vI j), some (vI 0)], [vI 0], LAY (shA A) (shF F), 0, 0)) hc86 3 rfl trivial ?_
                refine R_if (t := 108) hc86 rfl rfl (fun (_ : 0 = 0) => ?_) (fun (z : ¬ (0 = 0)) => absurd (by decide) z)
                refine R_s (P := True) (f' := (110, [some (vR 1), some (vI t), some (vI o), some (vI j), some (vI 0)], [vI 0], LAY (shA A) (shF F), 0, 0)) hc86 1 rfl trivial ?_
                refine R_cs hc86 rfl rfl ?_ (fun r G h => h)
                refine R_s (P := True) (f' := (1, [some (vI 0)], [vI 0], LAY (shA A) (shF F), 0, 0)) hc95 1 rfl trivial ?_
                refine R_if (t := 8) hc95 rfl rfl (fun (_ : 0 = 0) => ?_) (fun (z : ¬ (0 = 0)) => absurd (by decide) z)
                refine R_s (P := True) (f' := (9, [some (vI 0)], [vI 0], LAY (shA A) (shF F), 0, 0)) hc95 1 rfl trivial ?_
                refine R_reti hc95 rfl rfl ?_
                refine R_s (f' := (113, [some (vR 1), some (vI t), some (vI o), some (vI j), some (vI 0)], [vI 0], LAY (shA A) (shF F), 0, 0)) hc86 0 rfl trivial ?_
                refine R_reti hc86 rfl rfl ⟨⟨_, rfl⟩, ⟨_, _, rfl, rfl⟩, ?_⟩
                refine R_s (P := True) (f' := (2, [some (vR 88), some (vI t), some (vI o), some (vI j), none, none], [vI t, vR 88], LAY (shA A) (shF F), 0, 0)) hc162 2 rfl trivial ?_
                refine R_cv hc162 rfl rfl ?_ (fun r G h => h)
                refine R_s (P := inI ((F 4) - 1) ∧ True) (f' := (8, [some (vR 88), some (vI t)], [vI ((F 4) - 1), vI 0, vI t], LAY (shA A) (shF F), 0, 0)) hc107 6 rfl ⟨⟨by omega, by omega⟩, trivial⟩ ?_
                refine R_cs hc107 rfl rfl ?_ (fun r G h => h)
                refine R_s (P := True) (f' := (2, [some (vI t), some (vI 0), some (vI ((F 4) - 1))], [vI 0, vI t], LAY (shA A) (shF F), 0, 0)) hc104 2 rfl trivial ?_
                refine R_ic (t := 14) hc104 rfl rfl (fun (z : t < 0) => absurd z (by omega)) (fun (_ : ¬ (t < 0)) => ?_)
                refine R_s (P := True) (f' := (7, [some (vI t), some (vI 0), some (vI ((F 4) - 1))], [vI ((F 4) - 1), vI t], LAY (shA A) (shF F), 0, 0)) hc104 2 rfl trivial ?_
                refine R_ic (t := 14) hc104 rfl rfl (fun (z : (F 4) - 1 < t) => absurd z (by omega)) (fun (_ : ¬ ((F 4) - 1 < t)) => ?_)
                refine R_s (P := True) (f' := (15, [some (vI t), some (vI 0), some (vI ((F 4) - 1))], [vI 1], LAY (shA A) (shF F), 0, 0)) hc104 2 rfl trivial ?_
                refine R_retz hc104 rfl rfl (Or.inr rfl) ?_
                refine R_s (f' := (11, [some (vR 88), some (vI t)], [vI 1], LAY (shA A) (shF F), 0, 0)) hc107 0 rfl trivial ?_
                refine R_retz hc107 rfl rfl (Or.inr rfl) ?_
                refine R_s (f' := (5, [some (vR 88), some (vI t), some (vI o), some (vI j), none, none], [vI 1], LAY (shA A) (shF F), 0, 0)) hc162 0 rfl trivial ?_
                refine R_if (t := 16) hc162 rfl rfl (fun (z : 1 = 0) => absurd z (by decide)) (fun (_ : ¬ (1 = 0)) => ?_)
                refine R_s (P := True) (f' := (10, [some (vR 88), some (vI t), some (vI o), some (vI j), none, none], [vI o, vR 88], LAY (shA A) (shF F), 0, 0)) hc162 2 rfl trivial ?_
                refine R_cv hc162 rfl rfl ?_ (fun r G h => h)
                refine R_s (P := inI ((F 4) - 1) ∧ True) (f' := (8, [some (vR 88), some (vI o)], [vI ((F 4) - 1), vI 0, vI o], LAY (shA A) (shF F), 0, 0)) hc107 6 rfl ⟨⟨by omega, by omega⟩, trivial⟩ ?_
                refine R_cs hc107 rfl rfl ?_ (fun r G h => h)
                refine R_s (P := True) (f' := (2, [some (vI o), some (vI 0), some (vI ((F 4) - 1))], [vI 0, vI o], LAY (shA A) (shF F), 0, 0)) hc104 2 rfl trivial ?_
                refine R_ic (t := 14) hc104 rfl rfl (fun (z : o < 0) => absurd z (by omega)) (fun (_ : ¬ (o < 0)) => ?_)
                refine R_s (P := True) (f' := (7, [some (vI o), some (vI 0), some (vI ((F 4) - 1))], [vI ((F 4) - 1), vI o], LAY (shA A) (shF F), 0, 0)) hc104 2 rfl trivial ?_
                refine R_ic (t := 14) hc104 rfl rfl (fun (z : (F 4) - 1 < o) => absurd z (by omega)) (fun (_ : ¬ ((F 4) - 1 < o)) => ?_)
                refine R_s (P := True) (f' := (15, [some (vI o), some (vI 0), some (vI ((F 4) - 1))], [vI 1], LAY (shA A) (shF F), 0, 0)) hc104 2 rfl trivial ?_
                refine R_retz hc104 rfl rfl (Or.inr rfl) ?_
                refine R_s (f' := (11, [some (vR 88), some (vI o)], [vI 1], LAY (shA A) (shF F), 0, 0)) hc107 0 rfl trivial ?_
                refine R_retz hc107 rfl rfl (Or.inr rfl) ?_
                refine R_s (f' := (13, [some (vR 88), some (vI t), some (vI o), some (vI j), none, none], [vI 1], LAY (shA A) (shF F), 0, 0)) hc162 0 rfl trivial ?_
                refine R_if (t := 23) hc162 rfl rfl (fun (_ : ¬ 1 = 0) => ?_) (fun (z : ¬ (¬ 1 = 0)) => absurd (by decide) z)
                refine R_s (P := True) (f' := (25, [some (vR 88), some (vI t), some (vI o), some (vI j), none, none], [vI o, vI t], LAY (shA A) (shF F), 0, 0)) hc162 2 rfl trivial ?_
                refine R_ic (t := 35) hc162 rfl rfl (fun (_ : ¬ t = o) => ?_) (fun (z : ¬ (¬ t = o)) => absurd (show ¬ t = o by omega) z)
                refine R_s (P := True) (f' := (36, [some (vR 88), some (vI t), some (vI o), some (vI j), none, none], [vI j], LAY (shA A) (shF F), 0, 0)) hc162 1 rfl trivial ?_
                refine R_if (t := 87) hc162 rfl rfl (fun (z : j = 0) => absurd z (by omega)) (fun (_ : ¬ (j = 0)) => ?_)
                refine R_s (P := True) (f' := (42, [some (vR 88), some (vI t), some (vI o), some (vI j), none, none], [vI o, vI t, vR 88], LAY (shA A) (shF F), 0, 0)) hc162 3 rfl trivial ?_
                refine R_cv hc162 rfl rfl ?_ (fun r G h => h)
                refine R_s (P := (0 ≤ t ∧ t < ((A 13).length : Int)) ∧ (0 ≤ o ∧ o < ((A 13).length : Int)) ∧ inI ((rd (A 13) t) - (rd (A 13) o)) ∧ (0 ≤ t ∧ t < ((A 13).length : Int)) ∧ (0 ≤ rd (A 13) t ∧ 0 < 10) ∧ True) (f' := (22, [some (vR 88), some (vI t), some (vI o)], [vI ((rd (A 13) t) / 10), vI ((rd (A 13) t) - (rd (A 13) o))], LAY (shA A) (shF F), 0, 0)) hc161 15 rfl ⟨⟨by omega, by omega⟩, ⟨by omega, by omega⟩, ⟨by omega, by omega⟩, ⟨by omega, by omega⟩, ⟨by omega, by omega⟩, trivial⟩ ?_
                refine R_ic (t := 29) hc161 rfl rfl (fun (z : (rd (A 13) t) - (rd (A 13) o) ≤ (rd (A 13) t) / 10) => absurd z (by omega)) (fun (_ : ¬ ((rd (A 13) t) - (rd (A 13) o) ≤ (rd (A 13) t) / 10)) => ?_)
                refine R_s (P := True) (f' := (30, [some (vR 88), some (vI t), some (vI o)], [vI 1], LAY (shA A) (shF F), 0, 0)) hc161 2 rfl trivial ?_
                refine R_retz hc161 rfl rfl (Or.inr rfl) ?_
                refine R_s (f' := (45, [some (vR 88), some (vI t), some (vI o), some (vI j), none, none], [vI 1], LAY (shA A) (shF F), 0, 0)) hc162 0 rfl trivial ?_
                refine R_if (t := 87) hc162 rfl rfl (fun (_ : ¬ 1 = 0) => ?_) (fun (z : ¬ (¬ 1 = 0)) => absurd (by decide) z)
                refine R_s (P := True) (f' := (88, [some (vR 88), some (vI t), some (vI o), some (vI j), none, none], [vI 0], LAY (shA A) (shF F), 0, 0)) hc162 1 rfl trivial ?_
                refine R_reti hc162 rfl rfl ?_
                first
                  | (exfalso; omega; done)
                  | exact ⟨rfl, A, F, rfl, rfl, REL_c hR0⟩
              · refine R_s (P := inI (-((rd (A 13) t) - (rd (A 13) o))) ∧ (0 ≤ o ∧ o < ((A 13).length : Int)) ∧ (0 ≤ rd (A 13) o ∧ 0 < 10) ∧ True) (f' := (38, [some (vR 12), some (vI t), some (vI o), some (vI ((rd (A 13) t) - (rd (A 13) o)))], [vI ((rd (A 13) o) / 10), vI (-((rd (A 13) t) - (rd (A 13) o)))], LAY (shA A) (shF F), 0, 0)) hc57 8 rfl ⟨⟨by omega, by omega⟩, ⟨by omega, by omega⟩, ⟨by omega, by omega⟩, trivial⟩ ?_
                refine R_ic (t := 45) hc57 rfl rfl (fun (c12 : (rd (A 13) o) / 10 < -((rd (A 13) t) - (rd (A 13) o))) => ?_) (fun (c12 : ¬ ((rd (A 13) o) / 10 < -((rd (A 13) t) - (rd (A 13) o)))) => ?_)
                · refine R_s (P := True) (f' := (46, [some (vR 12), some (vI t), some (vI o), some (vI ((rd (A 13) t) - (rd (A 13) o)))], [vI 0], LAY (shA A) (shF F), 0, 0)) hc57 1 rfl trivial ?_
                  refine R_retz hc57 rfl rfl (Or.inl rfl) ?_
                  refine R_s (f' := (54, [some (vR 1), some (vI t), some (vI o), some (vI j), none], [vI 0], LAY (shA A) (shF F), 0, 0)) hc86 0 rfl trivial ?_
                  refine R_if (t := 91) hc86 rfl rfl (fun (_ : 0 = 0) => ?_) (fun (z : ¬ (0 = 0)) => absurd (by decide) z)
                  refine R_s (P := True) (f' := (96, [some (vR 1), some (vI t), some (vI o), some (vI j), some (vI 0)], [vI 0], LAY (shA A) (shF F), 0, 0)) hc86 3 rfl trivial ?_
                  refine R_if (t := 108) hc86 rfl rfl (fun (_ : 0 = 0) => ?_) (fun (z : ¬ (0 = 0)) => absurd (by decide) z)
                  refine R_s (P := True) (f' := (110, [some (vR 1), some (vI t), some (vI o), some (vI j), some (vI 0)], [vI 0], LAY (shA A) (shF F), 0, 0)) hc86 1 rfl trivial ?_
                  refine R_cs hc86 rfl rfl ?_ (fun r G h => h)
                  refine R_s (P := True) (f' := (1, [some (vI 0)], [vI 0], LAY (shA A) (shF F), 0, 0)) hc95 1 rfl trivial ?_
                  refine R_if (t := 8) hc95 rfl rfl (fun (_ : 0 = 0) => ?_) (fun (z : ¬ (0 = 0)) => absurd (by decide) z)
                  refine R_s (P := True) (f' := (9, [some (vI 0)], [vI 0], LAY (shA A) (shF F), 0, 0)) hc95 1 rfl trivial ?_
                  refine R_reti hc95 rfl rfl ?_
                  refine R_s (f' := (113, [some (vR 1), some (vI t), some (vI o), some (vI j), some (vI 0)], [vI 0], LAY (shA A) (shF F), 0, 0)) hc86 0 rfl trivial ?_
                  refine R_reti hc86 rfl rfl ⟨⟨_, rfl⟩, ⟨_, _, rfl, rfl⟩, ?_⟩
                  refine R_s (P := True) (f' := (2, [some (vR 88), some (vI t), some (vI o), some (vI j), none, none], [vI t, vR 88], LAY (shA A) (shF F), 0, 0)) hc162 2 rfl trivial ?_
                  refine R_cv hc162 rfl rfl ?_ (fun r G h => h)
                  refine R_s (P := inI ((F 4) - 1) ∧ True) (f' := (8, [some (vR 88), some (vI t)], [vI ((F 4) - 1), vI 0, vI t], LAY (shA A) (shF F), 0, 0)) hc107 6 rfl ⟨⟨by omega, by omega⟩, trivial⟩ ?_
                  refine R_cs hc107 rfl rfl ?_ (fun r G h => h)
                  refine R_s (P := True) (f' := (2, [some (vI t), some (vI 0), some (vI ((F 4) - 1))], [vI 0, vI t], LAY (shA A) (shF F), 0, 0)) hc104 2 rfl trivial ?_
                  refine R_ic (t := 14) hc104 rfl rfl (fun (z : t < 0) => absurd z (by omega)) (fun (_ : ¬ (t < 0)) => ?_)
                  refine R_s (P := True) (f' := (7, [some (vI t), some (vI 0), some (vI ((F 4) - 1))], [vI ((F 4) - 1), vI t], LAY (shA A) (shF F), 0, 0)) hc104 2 rfl trivial ?_
                  refine R_ic (t := 14) hc104 rfl rfl (fun (z : (F 4) - 1 < t) => absurd z (by omega)) (fun (_ : ¬ ((F 4) - 1 < t)) => ?_)
                  refine R_s (P := True) (f' := (15, [some (vI t), some (vI 0), some (vI ((F 4) - 1))], [vI 1], LAY (shA A) (shF F), 0, 0)) hc104 2 rfl trivial ?_
                  refine R_retz hc104 rfl rfl (Or.inr rfl) ?_
                  refine R_s (f' := (11, [some (vR 88), some (vI t)], [vI 1], LAY (shA A) (shF F), 0, 0)) hc107 0 rfl trivial ?_
                  refine R_retz hc107 rfl rfl (Or.inr rfl) ?_
                  refine R_s (f' := (5, [some (vR 88), some (vI t), some (vI o), some (vI j), none, none], [vI 1], LAY (shA A) (shF F), 0, 0)) hc162 0 rfl trivial ?_
                  refine R_if (t := 16) hc162 rfl rfl (fun (z : 1 = 0) => absurd z (by decide)) (fun (_ : ¬ (1 = 0)) => ?_)
                  refine R_s (P := True) (f' := (10, [some (vR 88), some (vI t), some (vI o), some (vI j), none, none], [vI o, vR 88], LAY (shA A) (shF F), 0, 0)) hc162 2 rfl trivial ?_
                  refine R_cv hc162 rfl rfl ?_ (fun r G h => h)
                  refine R_s (P := inI ((F 4) - 1) ∧ True) (f' := (8, [some (vR 88), some (vI o)], [vI ((F 4) - 1), vI 0, vI o], LAY (shA A) (shF F), 0, 0)) hc107 6 rfl ⟨⟨by omega, by omega⟩, trivial⟩ ?_
                  refine R_cs hc107 rfl rfl ?_ (fun r G h => h)
                  refine R_s (P := True) (f' := (2, [some (vI o), some (vI 0), some (vI ((F 4) - 1))], [vI 0, vI o], LAY (shA A) (shF F), 0, 0)) hc104 2 rfl trivial ?_
                  refine R_ic (t := 14) hc104 rfl rfl (fun (z : o < 0) => absurd z (by omega)) (fun (_ : ¬ (o < 0)) => ?_)
                  refine R_s (P := True) (f' := (7, [some (vI o), some (vI 0), some (vI ((F 4) - 1))], [vI ((F 4) - 1), vI o], LAY (shA A) (shF F), 0, 0)) hc104 2 rfl trivial ?_
                  refine R_ic (t := 14) hc104 rfl rfl (fun (z : (F 4) - 1 < o) => absurd z (by omega)) (fun (_ : ¬ ((F 4) - 1 < o)) => ?_)
                  refine R_s (P := True) (f' := (15, [some (vI o), some (vI 0), some (vI ((F 4) - 1))], [vI 1], LAY (shA A) (shF F), 0, 0)) hc104 2 rfl trivial ?_
                  refine R_retz hc104 rfl rfl (Or.inr rfl) ?_
                  refine R_s (f' := (11, [some (vR 88), some (vI o)], [vI 1], LAY (shA A) (shF F), 0, 0)) hc107 0 rfl trivial ?_
                  refine R_retz hc107 rfl rfl (Or.inr rfl) ?_
                  refine R_s (f' := (13, [some (vR 88), some (vI t), some (vI o), some (vI j), none, none], [vI 1], LAY (shA A) (shF F), 0, 0)) hc162 0 rfl trivial ?_
                  refine R_if (t := 23) hc162 rfl rfl (fun (_ : ¬ 1 = 0) => ?_) (fun (z : ¬ (¬ 1 = 0)) => absurd (by decide) z)
                  refine R_s (P := True) (f' := (25, [some (vR 88), some (vI t), some (vI o), some (vI j), none, none], [vI o, vI t], LAY (shA A) (shF F), 0, 0)) hc162 2 rfl trivial ?_
                  refine R_ic (t := 35) hc162 rfl rfl (fun (_ : ¬ t = o) => ?_) (fun (z : ¬ (¬ t = o)) => absurd (show ¬ t = o by omega) z)
                  refine R_s (P := True) (f' := (36, [some (vR 88), some (vI t), some (vI o), some (vI j), none, none], [vI j], LAY (shA A) (shF F), 0, 0)) hc162 1 rfl trivial ?_
                  refine R_if (t := 87) hc162 rfl rfl (fun (z : j = 0) => absurd z (by omega)) (fun (_ : ¬ (j = 0)) => ?_)
                  refine R_s (P := True) (f' := (42, [some (vR 88), some (vI t), some (vI o), some (vI j), none, none], [vI o, vI t, vR 88], LAY (shA A) (shF F), 0, 0)) hc162 3 rfl trivial ?_
                  refine R_cv hc162 rfl rfl ?_ (fun r G h => h)
                  refine R_s (P := (0 ≤ t ∧ t < ((A 13).length : Int)) ∧ (0 ≤ o ∧ o < ((A 13).length : Int)) ∧ inI ((rd (A 13) t) - (rd (A 13) o)) ∧ (0 ≤ t ∧ t < ((A 13).length : Int)) ∧ (0 ≤ rd (A 13) t ∧ 0 < 10) ∧ True) (f' := (22, [some (vR 88), some (vI t), some (vI o)], [vI ((rd (A 13) t) / 10), vI ((rd (A 13) t) - (rd (A 13) o))], LAY (shA A) (shF F), 0, 0)) hc161 15 rfl ⟨⟨by omega, by omega⟩, ⟨by omega, by omega⟩, ⟨by omega, by omega⟩, ⟨by omega, by omega⟩, ⟨by omega, by omega⟩, trivial⟩ ?_
                  refine R_ic (t := 29) hc161 rfl rfl (fun (_ : (rd (A 13) t) - (rd (A 13) o) ≤ (rd (A 13) t) / 10) => ?_) (fun (z : ¬ ((rd (A 13) t) - (rd (A 13) o) ≤ (rd (A 13) t) / 10)) => absurd (show (rd (A 13) t) - (rd (A 13) o) ≤ (rd (A 13) t) / 10 by omega) z)
                  refine R_s (P := True) (f' := (30, [some (vR 88), some (vI t), some (vI o)], [vI 0], LAY (shA A) (shF F), 0, 0)) hc161 1 rfl trivial ?_
                  refine R_retz hc161 rfl rfl (Or.inl rfl) ?_
                  refine R_s (f' := (45, [some (vR 88), some (vI t), some (vI o), some (vI j), none, none], [vI 0], LAY (shA A) (shF F), 0, 0)) hc162 0 rfl trivial ?_
                  refine R_if (t := 87) hc162 rfl rfl (fun (z : ¬ 0 = 0) => absurd z (by decide)) (fun (_ : ¬ (¬ 0 = 0)) => ?_)
                  refine R_s (P := True) (f' := (51, [some (vR 88), some (vI t), some (vI o), some (vI j), none, none], [vI t, vI o, vR 88], LAY (shA A) (shF F), 0, 0)) hc162 3 rfl trivial ?_
                  refine R_cv hc162 rfl rfl ?_ (fun r G h => h)
                  refine R_s (P := (0 ≤ o ∧ o < ((A 13).length : Int)) ∧ (0 ≤ t ∧ t < ((A 13).length : Int)) ∧ inI ((rd (A 13) o) - (rd (A 13) t)) ∧ (0 ≤ o ∧ o < ((A 13).length : Int)) ∧ (0 ≤ rd (A 13) o ∧ 0 < 10) ∧ True) (f' := (22, [some (vR 88), some (vI o), some (vI t)], [vI ((rd (A 13) o) / 10), vI ((rd (A 13) o) - (rd (A 13) t))], LAY (shA A) (shF F), 0, 0)) hc161 15 rfl ⟨⟨by omega, by omega⟩, ⟨by omega, by omega⟩, ⟨by omega, by omega⟩, ⟨by omega, by omega⟩, ⟨by omega, by omega⟩, trivial⟩ ?_
                  refine R_ic (t := 29) hc161 rfl rfl (fun (z : (rd (A 13) o) - (rd (A 13) t) ≤ (rd (A 13) o) / 10) => absurd z (by omega)) (fun (_ : ¬ ((rd (A 13) o) - (rd (A 13) t) ≤ (rd (A 13) o) / 10)) => ?_)
                  refine R_s (P := True) (f' := (30, [some (vR 88), some (vI o), some (vI t)], [vI 1], LAY (shA A) (shF F), 0, 0)) hc161 2 rfl trivial ?_
                  refine R_retz hc161 rfl rfl (Or.inr rfl) ?_
                  refine R_s (f' := (54, [some (vR 88), some (vI t), some (vI o), some (vI j), none, none], [vI 1], LAY (shA A) (shF F), 0, 0)) hc162 0 rfl trivial ?_
                  refine R_if (t := 87) hc162 rfl rfl (fun (_ : ¬ 1 = 0) => ?_) (fun (z : ¬ (¬ 1 = 0)) => absurd (by decide) z)
                  refine R_s (P := True) (f' := (88, [some (vR 88), some (vI t), some (vI o), some (vI j), none, none], [vI 0], LAY (shA A) (shF F), 0, 0)) hc162 1 rfl trivial ?_
                  refine R_reti hc162 rfl rfl ?_
                  first
                    | (exfalso; omega; done)
                    | exact ⟨rfl, A, F, rfl, rfl, REL_c hR0⟩
                · refine R_s (P := True) (f' := (46, [some (vR 12), some (vI t), some (vI o), some (vI ((rd (A 13) t) - (rd (A 13) o)))], [vI 1], LAY (shA A) (shF F), 0, 0)) hc57 2 rfl trivial ?_
                  refine R_retz hc57 rfl rfl (Or.inr rfl) ?_
                  refine R_s (f' := (54, [some (vR 1), some (vI t), some (vI o), some (vI j), none], [vI 1], LAY (shA A) (shF F), 0, 0)) hc86 0 rfl trivial ?_
                  refine R_if (t := 91) hc86 rfl rfl (fun (z : 1 = 0) => absurd z (by decide)) (fun (_ : ¬ (1 = 0)) => ?_)
                  refine R_s (P := True) (f' := (66, [some (vR 1), some (vI t), some (vI o), some (vI j), none], [vI (F 2), vI t, vR 79], LAY (shA A) (shF F), 0, 0)) hc86 5 rfl trivial ?_
                  refine R_cv hc86 rfl rfl ?_ (fun r G h => h)
                  refine R_s (P := True) (f' := (6, [some (vR 79), some (vI t), some (vI (F 2))], [vI 701, vI (F 2), vI t, vR 79], LAY (shA A) (shF F), 0, 0)) hc24 4 rfl trivial ?_
                  refine R_cv hc24 rfl rfl (l_isFree (A := (shA A)) (F := (shF F)) (LENS_sh hL) ⟨le1, le2⟩ (fun i (hi : (i : Int) < F 16) => (hLE.1.2.2.1 i (by omega) hi).2.2.2) (fun i (hi : (i : Int) < F 16) => hLE.1.2.2.2 i (by omega) (by omega))) (fun r G9 hp9 => ?_)
                  obtain ⟨e1, rfl⟩ := hp9
                  have e2 : r = some (vI fvt) := by rw [hfvt, hcft]; exact e1
                  clear e1
                  subst e2
                  refine R_s (f' := (9, [some (vR 79), some (vI t), some (vI (F 2))], [vI fvt], LAY (shA A) (shF F), 0, 0)) hc24 0 rfl trivial ?_
                  refine R_retz hc24 rfl rfl (by omega) ?_
                  refine R_s (f' := (69, [some (vR 1), some (vI t), some (vI o), some (vI j), none], [vI fvt], LAY (shA A) (shF F), 0, 0)) hc86 0 rfl trivial ?_
                  refine R_if (t := 91) hc86 rfl rfl (fun (c14 : fvt = 0) => ?_) (fun (c14 : ¬ (fvt = 0)) => ?_)
                  · refine R_s (P := True) (f' := (96, [some (vR 1), some (vI t), some (vI o), some (vI j), some (vI 0)], [vI 0], LAY (shA A) (shF F), 0, 0)) hc86 3 rfl trivial ?_
                    refine R_if (t := 108) hc86 rfl rfl (fun (_ : 0 = 0) => ?_) (fun (z : ¬ (0 = 0)) => absurd (by decide) z)
                    refine R_s (P := True) (f' := (110, [some (vR 1), some (vI t), some (vI o), some (vI j), some (vI 0)], [vI 0], LAY (shA A) (shF F), 0, 0)) hc86 1 rfl trivial ?_
                    refine R_cs hc86 rfl rfl ?_ (fun r G h => h)
                    refine R_s (P := True) (f' := (1, [some (vI 0)], [vI 0], LAY (shA A) (shF F), 0, 0)) hc95 1 rfl trivial ?_
                    refine R_if (t := 8) hc95 rfl rfl (fun (_ : 0 = 0) => ?_) (fun (z : ¬ (0 = 0)) => absurd (by decide) z)
                    refine R_s (P := True) (f' := (9, [some (vI 0)], [vI 0], LAY (shA A) (shF F), 0, 0)) hc95 1 rfl trivial ?_
                    refine R_reti hc95 rfl rfl ?_
                    refine R_s (f' := (113, [some (vR 1), some (vI t), some (vI o), some (vI j), some (vI 0)], [vI 0], LAY (shA A) (shF F), 0, 0)) hc86 0 rfl trivial ?_
                    refine R_reti hc86 rfl rfl ⟨⟨_, rfl⟩, ⟨_, _, rfl, rfl⟩, ?_⟩
                    refine R_s (P := True) (f' := (2, [some (vR 88), some (vI t), some (vI o), some (vI j), none, none], [vI t, vR 88], LAY (shA A) (shF F), 0, 0)) hc162 2 rfl trivial ?_
                    refine R_cv hc162 rfl rfl ?_ (fun r G h => h)
                    refine R_s (P := inI ((F 4) - 1) ∧ True) (f' := (8, [some (vR 88), some (vI t)], [vI ((F 4) - 1), vI 0, vI t], LAY (shA A) (shF F), 0, 0)) hc107 6 rfl ⟨⟨by omega, by omega⟩, trivial⟩ ?_
                    refine R_cs hc107 rfl rfl ?_ (fun r G h => h)
                    refine R_s (P := True) (f' := (2, [some (vI t), some (vI 0), some (vI ((F 4) - 1))], [vI 0, vI t], LAY (shA A) (shF F), 0, 0)) hc104 2 rfl trivial ?_
                    refine R_ic (t := 14) hc104 rfl rfl (fun (z : t < 0) => absurd z (by omega)) (fun (_ : ¬ (t < 0)) => ?_)
                    refine R_s (P := True) (f' := (7, [some (vI t), some (vI 0), some (vI ((F 4) - 1))], [vI ((F 4) - 1), vI t], LAY (shA A) (shF F), 0, 0)) hc104 2 rfl trivial ?_
                    refine R_ic (t := 14) hc104 rfl rfl (fun (z : (F 4) - 1 < t) => absurd z (by omega)) (fun (_ : ¬ ((F 4) - 1 < t)) => ?_)
                    refine R_s (P := True) (f' := (15, [some (vI t), some (vI 0), some (vI ((F 4) - 1))], [vI 1], LAY (shA A) (shF F), 0, 0)) hc104 2 rfl trivial ?_
                    refine R_retz hc104 rfl rfl (Or.inr rfl) ?_
                    refine R_s (f' := (11, [some (vR 88), some (vI t)], [vI 1], LAY (shA A) (shF F), 0, 0)) hc107 0 rfl trivial ?_
                    refine R_retz hc107 rfl rfl (Or.inr rfl) ?_
                    refine R_s (f' := (5, [some (vR 88), some (vI t), some (vI o), some (vI j), none, none], [vI 1], LAY (shA A) (shF F), 0, 0)) hc162 0 rfl trivial ?_
                    refine R_if (t := 16) hc162 rfl rfl (fun (z : 1 = 0) => absurd z (by decide)) (fun (_ : ¬ (1 = 0)) => ?_)
                    refine R_s (P := True) (f' := (10, [some (vR 88), some (vI t), some (vI o), some (vI j), none, none], [vI o, vR 88], LAY (shA A) (shF F), 0, 0)) hc162 2 rfl trivial ?_
                    refine R_cv hc162 rfl rfl ?_ (fun r G h => h)
                    refine R_s (P := inI ((F 4) - 1) ∧ True) (f' := (8, [some (vR 88), some (vI o)], [vI ((F 4) - 1), vI 0, vI o], LAY (shA A) (shF F), 0, 0)) hc107 6 rfl ⟨⟨by omega, by omega⟩, trivial⟩ ?_
                    refine R_cs hc107 rfl rfl ?_ (fun r G h => h)
                    refine R_s (P := True) (f' := (2, [some (vI o), some (vI 0), some (vI ((F 4) - 1))], [vI 0, vI o], LAY (shA A) (shF F), 0, 0)) hc104 2 rfl trivial ?_
                    refine R_ic (t := 14) hc104 rfl rfl (fun (z : o < 0) => absurd z (by omega)) (fun (_ : ¬ (o < 0)) => ?_)
                    refine R_s (P := True) (f' := (7, [some (vI o), some (vI 0), some (vI ((F 4) - 1))], [vI ((F 4) - 1), vI o], LAY (shA A) (shF F), 0, 0)) hc104 2 rfl trivial ?_
                    refine R_ic (t := 14) hc104 rfl rfl (fun (z : (F 4) - 1 < o) => absurd z (by omega)) (fun (_ : ¬ ((F 4) - 1 < o)) => ?_)
                    refine R_s (P := True) (f' := (15, [some (vI o), some (vI 0), some (vI ((F 4) - 1))], [vI 1], LAY (shA A) (shF F), 0, 0)) hc104 2 rfl trivial ?_
                    refine R_retz hc104 rfl rfl (Or.inr rfl) ?_
                    refine R_s (f' := (11, [some (vR 88), some (vI o)], [vI 1], LAY (shA A) (shF F), 0, 0)) hc107 0 rfl trivial ?_
                    refine R_retz hc107 rfl rfl (Or.inr rfl) ?_
                    refine R_s (f' := (13, [some (vR 88), some (vI t), some (vI o), some (vI j), none, none], [vI 1], LAY (shA A) (shF F), 0, 0)) hc162 0 rfl trivial ?_
                    refine R_if (t := 23) hc162 rfl rfl (fun (_ : ¬ 1 = 0) => ?_) (fun (z : ¬ (¬ 1 = 0)) => absurd (by decide) z)
                    refine R_s (P := True) (f' := (25, [some (vR 88), some (vI t), some (vI o), some (vI j), none, none], [vI o, vI t], LAY (shA A) (shF F), 0, 0)) hc162 2 rfl trivial ?_
                    refine R_ic (t := 35) hc162 rfl rfl (fun (_ : ¬ t = o) => ?_) (fun (z : ¬ (¬ t = o)) => absurd (show ¬ t = o by omega) z)
                    refine R_s (P := True) (f' := (36, [some (vR 88), some (vI t), some (vI o), some (vI j), none, none], [vI j], LAY (shA A) (shF F), 0, 0)) hc162 1 rfl trivial ?_
                    refine R_if (t := 87) hc162 rfl rfl (fun (z : j = 0) => absurd z (by omega)) (fun (_ : ¬ (j = 0)) => ?_)
                    refine R_s (P := True) (f' := (42, [some (vR 88), some (vI t), some (vI o), some (vI j), none, none], [vI o, vI t, vR 88], LAY (shA A) (shF F), 0, 0)) hc162 3 rfl trivial ?_
                    refine R_cv hc162 rfl rfl ?_ (fun r G h => h)
                    refine R_s (P := (0 ≤ t ∧ t < ((A 13).length : Int)) ∧ (0 ≤ o ∧ o < ((A 13).length : Int)) ∧ inI ((rd (A 13) t) - (rd (A 13) o)) ∧ (0 ≤ t ∧ t < ((A 13).length : Int)) ∧ (0 ≤ rd (A 13) t ∧ 0 < 10) ∧ True) (f' := (22, [some (vR 88), some (vI t), some (vI o)], [vI ((rd (A 13) t) / 10), vI ((rd (A 13) t) - (rd (A 13) o))], LAY (shA A) (shF F), 0, 0)) hc161 15 rfl ⟨⟨by omega, by omega⟩, ⟨by omega, by omega⟩, ⟨by omega, by omega⟩, ⟨by omega, by omega⟩, ⟨by omega, by omega⟩, trivial⟩ ?_
                    refine R_ic (t := 29) hc161 rfl rfl (fun (_ : (rd (A 13) t) - (rd (A 13) o) ≤ (rd (A 13) t) / 10) => ?_) (fun (z : ¬ ((rd (A 13) t) - (rd (A 13) o) ≤ (rd (A 13) t) / 10)) => absurd (show (rd (A 13) t) - (rd (A 13) o) ≤ (rd (A 13) t) / 10 by omega) z)
                    refine R_s (P := True) (f' := (30, [some (vR 88), some (vI t), some (vI o)], [vI 0], LAY (shA A) (shF F), 0, 0)) hc161 1 rfl trivial ?_
                    refine R_retz hc161 rfl rfl (Or.inl rfl) ?_
                    refine R_s (f' := (45, [some (vR 88), some (vI t), some (vI o), some (vI j), none, none], [vI 0], LAY (shA A) (shF F), 0, 0)) hc162 0 rfl trivial ?_
                    refine R_if (t := 87) hc162 rfl rfl (fun (z : ¬ 0 = 0) => absurd z (by decide)) (fun (_ : ¬ (¬ 0 = 0)) => ?_)
                    refine R_s (P := True) (f' := (51, [some (vR 88), some (vI t), some (vI o), some (vI j), none, none], [vI t, vI o, vR 88], LAY (shA A) (shF F), 0, 0)) hc162 3 rfl trivial ?_
                    refine R_cv hc162 rfl rfl ?_ (fun r G h => h)
                    refine R_s (P := (0 ≤ o ∧ o < ((A 13).length : Int)) ∧ (0 ≤ t ∧ t < ((A 13).length : Int)) ∧ inI ((rd (A 13) o) - (rd (A 13) t)) ∧ (0 ≤ o ∧ o < ((A 13).length : Int)) ∧ (0 ≤ rd (A 13) o ∧ 0 < 10) ∧ True) (f' := (22, [some (vR 88), some (vI o), some (vI t)], [vI ((rd (A 13) o) / 10), vI ((rd (A 13) o) - (rd (A 13) t))], LAY (shA A) (shF F), 0, 0)) hc161 15 rfl ⟨⟨by omega, by omega⟩, ⟨by omega, by omega⟩, ⟨by omega, by omega⟩, ⟨by omega, by omega⟩, ⟨by omega, by omega⟩, trivial⟩ ?_
                    refine R_ic (t := 29) hc161 rfl rfl (fun (_ : (rd (A 13) o) - (rd (A 13) t) ≤ (rd (A 13) o) / 10) => ?_) (fun (z : ¬ ((rd (A 13) o) - (rd (A 13) t) ≤ (rd (A 13) o) / 10)) => absurd (show (rd (A 13) o) - (rd (A 13) t) ≤ (rd (A 13) o) / 10 by omega) z)
                    refine R_s (P := True) (f' := (30, [some (vR 88), some (vI o), some (vI t)], [vI 0], LAY (shA A) (shF F), 0, 0)) hc161 1 rfl trivial ?_
                    refine R_retz hc161 rfl rfl (Or.inl rfl) ?_
                    refine R_s (f' := (54, [some (vR 88), some (vI t), some (vI o), some (vI j), none, none], [vI 0], LAY (shA A) (shF F), 0, 0)) hc162 0 rfl trivial ?_
                    refine R_if (t := 87) hc162 rfl rfl (fun (z : ¬ 0 = 0) => absurd z (by decide)) (fun (_ : ¬ (¬ 0 = 0)) => ?_)
                    refine R_s (P := True) (f' := (66, [some (vR 88), some (vI t), some (vI o), some (vI j), none, none], [vI 9999, vI (F 2), vI t, vR 88], LAY (shA A) (shF F), 0, 0)) hc162 5 rfl trivial ?_
                    refine R_cv hc162 rfl rfl (l_isLeased (A := (shA A)) (F := (shF F)) (T := A 80) (Fr := A 81) (Y := A 82) ⟨le1, le2⟩ (hL 102 (by decide)) (hL 83 (by decide)) (fun i (hi : (i : Int) < F 16) => hLE.1.2.2.1 i (by omega) hi) (fun i (hi : (i : Int) < F 16) => hLE.1.2.2.2 i (by omega) (by omega))) (fun r G9 hp9 => ?_)
                    obtain ⟨e1, rfl⟩ := hp9
                    have e0 : cft = LFc (A 80) (A 81) (A 82) (A 83) t (F 2) (9999 + 1) (F 16).toNat := by
                      rw [hcft]
                      exact LFc_far (fun i hi => by have z := hLE.1.2.2.1 i (by omega) (by omega); omega)
                    have e2 : r = some (vI gvt) := by
                      rw [hgvt, e0]
                      exact e1
                    clear e1
                    subst e2
                    refine R_s (f' := (69, [some (vR 88), some (vI t), some (vI o), some (vI j), none, none], [vI gvt], LAY (shA A) (shF F), 0, 0)) hc162 0 rfl trivial ?_
                    refine R_if (t := 87) hc162 rfl rfl (fun (c129 : ¬ gvt = 0) => ?_) (fun (c129 : ¬ (¬ gvt = 0)) => ?_)
                    · refine R_s (P := True) (f' := (88, [some (vR 88), some (vI t), some (vI o), some (vI j), none, none], [vI 0], LAY (shA A) (shF F), 0, 0)) hc162 1 rfl trivial ?_
                      refine R_reti hc162 rfl rfl ?_
                      first
                        | (exfalso; omega; done)
                        | exact ⟨rfl, A, F, rfl, rfl, REL_c hR0⟩
                    · refine R_s (P := True) (f' := (81, [some (vR 88), some (vI t), some (vI o), some (vI j), none, none], [vI 9999, vI (F 2), vI o, vR 88], LAY (shA A) (shF F), 0, 0)) hc162 5 rfl trivial ?_
                      refine R_cv hc162 rfl rfl (l_isLeased (A := (shA A)) (F := (shF F)) (T := A 80) (Fr := A 81) (Y := A 82) ⟨le1, le2⟩ (hL 102 (by decide)) (hL 83 (by decide)) (fun i (hi : (i : Int) < F 16) => hLE.1.2.2.1 i (by omega) hi) (fun i (hi : (i : Int) < F 16) => hLE.1.2.2.2 i (by omega) (by omega))) (fun r G9 hp9 => ?_)
                      obtain ⟨e1, rfl⟩ := hp9
                      have e0 : cfo = LFc (A 80) (A 81) (A 82) (A 83) o (F 2) (9999 + 1) (F 16).toNat := by
                        rw [hcfo]
                        exact LFc_far (fun i hi => by have z := hLE.1.2.2.1 i (by omega) (by omega); omega)
                      have e2 : r = some (vI gvo) := by
                        rw [hgvo, e0]
                        exact e1
                      clear e1
                      subst e2
                      refine R_s (f' := (84, [some (vR 88), some (vI t), some (vI o), some (vI j), none, none], [vI gvo], LAY (shA A) (shF F), 0, 0)) hc162 0 rfl trivial ?_
                      refine R_if (t := 89) hc162 rfl rfl (fun (c130 : gvo = 0) => ?_) (fun (c130 : ¬ (gvo = 0)) => ?_)
                      · refine R_s (P := True) (f' := (92, [some (vR 88), some (vI t), some (vI o), some (vI j), some (vI 0), none], [], LAY (shA A) (shF F), 0, 0)) hc162 2 rfl trivial ?_
                        exfalso
                        omega
                      · refine R_s (P := True) (f' := (88, [some (vR 88), some (vI t), some (vI o), some (vI j), none, none], [vI 0], LAY (shA A) (shF F), 0, 0)) hc162 1 rfl trivial ?_
                        refine R_reti hc162 rfl rfl ?_
                        first
                          | (exfalso; omega; done)
                          | exact ⟨rfl, A, F, rfl, rfl, REL_c hR0⟩
                  · refine R_s (P := True) (f' := (81, [some (vR 1), some (vI t), some (vI o), some (vI j), none], [vI (F 2), vI o, vR 79], LAY (shA A) (shF F), 0, 0)) hc86 5 rfl trivial ?_
                    refine R_cv hc86 rfl rfl ?_ (fun r G h => h)
                    refine R_s (P := True) (f' := (6, [some (vR 79), some (vI o), some (vI (F 2))], [vI 701, vI (F 2), vI o, vR 79], LAY (shA A) (shF F), 0, 0)) hc24 4 rfl trivial ?_
                    refine R_cv hc24 rfl rfl (l_isFree (A := (shA A)) (F := (shF F)) (LENS_sh hL) ⟨le1, le2⟩ (fun i (hi : (i : Int) < F 16) => (hLE.1.2.2.1 i (by omega) hi).2.2.2) (fun i (hi : (i : Int) < F 16) => hLE.1.2.2.2 i (by omega) (by omega))) (fun r G9 hp9 => ?_)
                    obtain ⟨e1, rfl⟩ := hp9
                    have e2 : r = some (vI fvo) := by rw [hfvo, hcfo]; exact e1
                    clear e1
                    subst e2
                    refine R_s (f' := (9, [some (vR 79), some (vI o), some (vI (F 2))], [vI fvo], LAY (shA A) (shF F), 0, 0)) hc24 0 rfl trivial ?_
                    refine R_retz hc24 rfl rfl (by omega) ?_
                    refine R_s (f' := (84, [some (vR 1), some (vI t), some (vI o), some (vI j), none], [vI fvo], LAY (shA A) (shF F), 0, 0)) hc86 0 rfl trivial ?_
                    refine R_if (t := 91) hc86 rfl rfl (fun (c17 : fvo = 0) => ?_) (fun (c17 : ¬ (fvo = 0)) => ?_)
                    · refine R_s (P := True) (f' := (96, [some (vR 1), some (vI t), some (vI o), some (vI j), some (vI 0)], [vI 0], LAY (shA A) (shF F), 0, 0)) hc86 3 rfl trivial ?_
                      refine R_if (t := 108) hc86 rfl rfl (fun (_ : 0 = 0) => ?_) (fun (z : ¬ (0 = 0)) => absurd (by decide) z)
                      refine R_s (P := True) (f' := (110, [some (vR 1), some (vI t), some (vI o), some (vI j), some (vI 0)], [vI 0], LAY (shA A) (shF F), 0, 0)) hc86 1 rfl trivial ?_
                      refine R_cs hc86 rfl rfl ?_ (fun r G h => h)
                      refine R_s (P := True) (f' := (1, [some (vI 0)], [vI 0], LAY (shA A) (shF F), 0, 0)) hc95 1 rfl trivial ?_
                      refine R_if (t := 8) hc95 rfl rfl (fun (_ : 0 = 0) => ?_) (fun (z : ¬ (0 = 0)) => absurd (by decide) z)
                      refine R_s (P := True) (f' := (9, [some (vI 0)], [vI 0], LAY (shA A) (shF F), 0, 0)) hc95 1 rfl trivial ?_
                      refine R_reti hc95 rfl rfl ?_
                      refine R_s (f' := (113, [some (vR 1), some (vI t), some (vI o), some (vI j), some (vI 0)], [vI 0], LAY (shA A) (shF F), 0, 0)) hc86 0 rfl trivial ?_
                      refine R_reti hc86 rfl rfl ⟨⟨_, rfl⟩, ⟨_, _, rfl, rfl⟩, ?_⟩
                      refine R_s (P := True) (f' := (2, [some (vR 88), some (vI t), some (vI o), some (vI j), none, none], [vI t, vR 88], LAY (shA A) (shF F), 0, 0)) hc162 2 rfl trivial ?_
                      refine R_cv hc162 rfl rfl ?_ (fun r G h => h)
                      refine R_s (P := inI ((F 4) - 1) ∧ True) (f' := (8, [some (vR 88), some (vI t)], [vI ((F 4) - 1), vI 0, vI t], LAY (shA A) (shF F), 0, 0)) hc107 6 rfl ⟨⟨by omega, by omega⟩, trivial⟩ ?_
                      refine R_cs hc107 rfl rfl ?_ (fun r G h => h)
                      refine R_s (P := True) (f' := (2, [some (vI t), some (vI 0), some (vI ((F 4) - 1))], [vI 0, vI t], LAY (shA A) (shF F), 0, 0)) hc104 2 rfl trivial ?_
                      refine R_ic (t := 14) hc104 rfl rfl (fun (z : t < 0) => absurd z (by omega)) (fun (_ : ¬ (t < 0)) => ?_)
                      refine R_s (P := True) (f' := (7, [some (vI t), some (vI 0), some (vI ((F 4) - 1))], [vI ((F 4) - 1), vI t], LAY (shA A) (shF F), 0, 0)) hc104 2 rfl trivial ?_
                      refine R_ic (t := 14) hc104 rfl rfl (fun (z : (F 4) - 1 < t) => absurd z (by omega)) (fun (_ : ¬ ((F 4) - 1 < t)) => ?_)
                      refine R_s (P := True) (f' := (15, [some (vI t), some (vI 0), some (vI ((F 4) - 1))], [vI 1], LAY (shA A) (shF F), 0, 0)) hc104 2 rfl trivial ?_
                      refine R_retz hc104 rfl rfl (Or.inr rfl) ?_
                      refine R_s (f' := (11, [some (vR 88), some (vI t)], [vI 1], LAY (shA A) (shF F), 0, 0)) hc107 0 rfl trivial ?_
                      refine R_retz hc107 rfl rfl (Or.inr rfl) ?_
                      refine R_s (f' := (5, [some (vR 88), some (vI t), some (vI o), some (vI j), none, none], [vI 1], LAY (shA A) (shF F), 0, 0)) hc162 0 rfl trivial ?_
                      refine R_if (t := 16) hc162 rfl rfl (fun (z : 1 = 0) => absurd z (by decide)) (fun (_ : ¬ (1 = 0)) => ?_)
                      refine R_s (P := True) (f' := (10, [some (vR 88), some (vI t), some (vI o), some (vI j), none, none], [vI o, vR 88], LAY (shA A) (shF F), 0, 0)) hc162 2 rfl trivial ?_
                      refine R_cv hc162 rfl rfl ?_ (fun r G h => h)
                      refine R_s (P := inI ((F 4) - 1) ∧ True) (f' := (8, [some (vR 88), some (vI o)], [vI ((F 4) - 1), vI 0, vI o], LAY (shA A) (shF F), 0, 0)) hc107 6 rfl ⟨⟨by omega, by omega⟩, trivial⟩ ?_
                      refine R_cs hc107 rfl rfl ?_ (fun r G h => h)
                      refine R_s (P := True) (f' := (2, [some (vI o), some (vI 0), some (vI ((F 4) - 1))], [vI 0, vI o], LAY (shA A) (shF F), 0, 0)) hc104 2 rfl trivial ?_
                      refine R_ic (t := 14) hc104 rfl rfl (fun (z : o < 0) => absurd z (by omega)) (fun (_ : ¬ (o < 0)) => ?_)
                      refine R_s (P := True) (f' := (7, [some (vI o), some (vI 0), some (vI ((F 4) - 1))], [vI ((F 4) - 1), vI o], LAY (shA A) (shF F), 0, 0)) hc104 2 rfl trivial ?_
                      refine R_ic (t := 14) hc104 rfl rfl (fun (z : (F 4) - 1 < o) => absurd z (by omega)) (fun (_ : ¬ ((F 4) - 1 < o)) => ?_)
                      refine R_s (P := True) (f' := (15, [some (vI o), some (vI 0), some (vI ((F 4) - 1))], [vI 1], LAY (shA A) (shF F), 0, 0)) hc104 2 rfl trivial ?_
                      refine R_retz hc104 rfl rfl (Or.inr rfl) ?_
                      refine R_s (f' := (11, [some (vR 88), some (vI o)], [vI 1], LAY (shA A) (shF F), 0, 0)) hc107 0 rfl trivial ?_
                      refine R_retz hc107 rfl rfl (Or.inr rfl) ?_
                      refine R_s (f' := (13, [some (vR 88), some (vI t), some (vI o), some (vI j), none, none], [vI 1], LAY (shA A) (shF F), 0, 0)) hc162 0 rfl trivial ?_
                      refine R_if (t := 23) hc162 rfl rfl (fun (_ : ¬ 1 = 0) => ?_) (fun (z : ¬ (¬ 1 = 0)) => absurd (by decide) z)
                      refine R_s (P := True) (f' := (25, [some (vR 88), some (vI t), some (vI o), some (vI j), none, none], [vI o, vI t], LAY (shA A) (shF F), 0, 0)) hc162 2 rfl trivial ?_
                      refine R_ic (t := 35) hc162 rfl rfl (fun (_ : ¬ t = o) => ?_) (fun (z : ¬ (¬ t = o)) => absurd (show ¬ t = o by omega) z)
                      refine R_s (P := True) (f' := (36, [some (vR 88), some (vI t), some (vI o), some (vI j), none, none], [vI j], LAY (shA A) (shF F), 0, 0)) hc162 1 rfl trivial ?_
                      refine R_if (t := 87) hc162 rfl rfl (fun (z : j = 0) => absurd z (by omega)) (fun (_ : ¬ (j = 0)) => ?_)
                      refine R_s (P := True) (f' := (42, [some (vR 88), some (vI t), some (vI o), some (vI j), none, none], [vI o, vI t, vR 88], LAY (shA A) (shF F), 0, 0)) hc162 3 rfl trivial ?_
                      refine R_cv hc162 rfl rfl ?_ (fun r G h => h)
                      refine R_s (P := (0 ≤ t ∧ t < ((A 13).length : Int)) ∧ (0 ≤ o ∧ o < ((A 13).length : Int)) ∧ inI ((rd (A 13) t) - (rd (A 13) o)) ∧ (0 ≤ t ∧ t < ((A 13).length : Int)) ∧ (0 ≤ rd (A 13) t ∧ 0 < 10) ∧ True) (f' := (22, [some (vR 88), some (vI t), some (vI o)], [vI ((rd (A 13) t) / 10), vI ((rd (A 13) t) - (rd (A 13) o))], LAY (shA A) (shF F), 0, 0)) hc161 15 rfl ⟨⟨by omega, by omega⟩, ⟨by omega, by omega⟩, ⟨by omega, by omega⟩, ⟨by omega, by omega⟩, ⟨by omega, by omega⟩, trivial⟩ ?_
                      refine R_ic (t := 29) hc161 rfl rfl (fun (_ : (rd (A 13) t) - (rd (A 13) o) ≤ (rd (A 13) t) / 10) => ?_) (fun (z : ¬ ((rd (A 13) t) - (rd (A 13) o) ≤ (rd (A 13) t) / 10)) => absurd (show (rd (A 13) t) - (rd (A 13) o) ≤ (rd (A 13) t) / 10 by omega) z)
                      refine R_s (P := True) (f' := (30, [some (vR 88), some (vI t), some (vI o)], [vI 0], LAY (shA A) (shF F), 0, 0)) hc161 1 rfl trivial ?_
                      refine R_retz hc161 rfl rfl (Or.inl rfl) ?_
                      refine R_s (f' := (45, [some (vR 88), some (vI t), some (vI o), some (vI j), none, none], [vI 0], LAY (shA A) (shF F), 0, 0)) hc162 0 rfl trivial ?_
                      refine R_if (t := 87) hc162 rfl rfl (fun (z : ¬ 0 = 0) => absurd z (by decide)) (fun (_ : ¬ (¬ 0 = 0)) => ?_)
                      refine R_s (P := True) (f' := (51, [some (vR 88), some (vI t), some (vI o), some (vI j), none, none], [vI t, vI o, vR 88], LAY (shA A) (shF F), 0, 0)) hc162 3 rfl trivial ?_
                      refine R_cv hc162 rfl rfl ?_ (fun r G h => h)
                      refine R_s (P := (0 ≤ o ∧ o < ((A 13).length : Int)) ∧ (0 ≤ t ∧ t < ((A 13).length : Int)) ∧ inI ((rd (A 13) o) - (rd (A 13) t)) ∧ (0 ≤ o ∧ o < ((A 13).length : Int)) ∧ (0 ≤ rd (A 13) o ∧ 0 < 10) ∧ True) (f' := (22, [some (vR 88), some (vI o), some (vI t)], [vI ((rd (A 13) o) / 10), vI ((rd (A 13) o) - (rd (A 13) t))], LAY (shA A) (shF F), 0, 0)) hc161 15 rfl ⟨⟨by omega, by omega⟩, ⟨by omega, by omega⟩, ⟨by omega, by omega⟩, ⟨by omega, by omega⟩, ⟨by omega, by omega⟩, trivial⟩ ?_
                      refine R_ic (t := 29) hc161 rfl rfl (fun (_ : (rd (A 13) o) - (rd (A 13) t) ≤ (rd (A 13) o) / 10) => ?_) (fun (z : ¬ ((rd (A 13) o) - (rd (A 13) t) ≤ (rd (A 13) o) / 10)) => absurd (show (rd (A 13) o) - (rd (A 13) t) ≤ (rd (A 13) o) / 10 by omega) z)
                      refine R_s (P := True) (f' := (30, [some (vR 88), some (vI o), some (vI t)], [vI 0], LAY (shA A) (shF F), 0, 0)) hc161 1 rfl trivial ?_
                      refine R_retz hc161 rfl rfl (Or.inl rfl) ?_
                      refine R_s (f' := (54, [some (vR 88), some (vI t), some (vI o), some (vI j), none, none], [vI 0], LAY (shA A) (shF F), 0, 0)) hc162 0 rfl trivial ?_
                      refine R_if (t := 87) hc162 rfl rfl (fun (z : ¬ 0 = 0) => absurd z (by decide)) (fun (_ : ¬ (¬ 0 = 0)) => ?_)
                      refine R_s (P := True) (f' := (66, [some (vR 88), some (vI t), some (vI o), some (vI j), none, none], [vI 9999, vI (F 2), vI t, vR 88], LAY (shA A) (shF F), 0, 0)) hc162 5 rfl trivial ?_
                      refine R_cv hc162 rfl rfl (l_isLeased (A := (shA A)) (F := (shF F)) (T := A 80) (Fr := A 81) (Y := A 82) ⟨le1, le2⟩ (hL 102 (by decide)) (hL 83 (by decide)) (fun i (hi : (i : Int) < F 16) => hLE.1.2.2.1 i (by omega) hi) (fun i (hi : (i : Int) < F 16) => hLE.1.2.2.2 i (by omega) (by omega))) (fun r G9 hp9 => ?_)
                      obtain ⟨e1, rfl⟩ := hp9
                      have e0 : cft = LFc (A 80) (A 81) (A 82) (A 83) t (F 2) (9999 + 1) (F 16).toNat := by
                        rw [hcft]
                        exact LFc_far (fun i hi => by have z := hLE.1.2.2.1 i (by omega) (by omega); omega)
                      have e2 : r = some (vI gvt) := by
                        rw [hgvt, e0]
                        exact e1
                      clear e1
                      subst e2
                      refine R_s (f' := (69, [some (vR 88), some (vI t), some (vI o), some (vI j), none, none], [vI gvt], LAY (shA A) (shF F), 0, 0)) hc162 0 rfl trivial ?_
                      refine R_if (t := 87) hc162 rfl rfl (fun (c132 : ¬ gvt = 0) => ?_) (fun (c132 : ¬ (¬ gvt = 0)) => ?_)
                      · refine R_s (P := True) (f' := (88, [some (vR 88), some (vI t), some (vI o), some (vI j), none, none], [vI 0], LAY (shA A) (shF F), 0, 0)) hc162 1 rfl trivial ?_
                        refine R_reti hc162 rfl rfl ?_
                        first
                          | (exfalso; omega; done)
                          | exact ⟨rfl, A, F, rfl, rfl, REL_c hR0⟩
                      · refine R_s (P := True) (f' := (81, [some (vR 88), some (vI t), some (vI o), some (vI j), none, none], [vI 9999, vI (F 2), vI o, vR 88], LAY (shA A) (shF F), 0, 0)) hc162 5 rfl trivial ?_
                        refine R_cv hc162 rfl rfl (l_isLeased (A := (shA A)) (F := (shF F)) (T := A 80) (Fr := A 81) (Y := A 82) ⟨le1, le2⟩ (hL 102 (by decide)) (hL 83 (by decide)) (fun i (hi : (i : Int) < F 16) => hLE.1.2.2.1 i (by omega) hi) (fun i (hi : (i : Int) < F 16) => hLE.1.2.2.2 i (by omega) (by omega))) (fun r G9 hp9 => ?_)
                        obtain ⟨e1, rfl⟩ := hp9
                        have e0 : cfo = LFc (A 80) (A 81) (A 82) (A 83) o (F 2) (9999 + 1) (F 16).toNat := by
                          rw [hcfo]
                          exact LFc_far (fun i hi => by have z := hLE.1.2.2.1 i (by omega) (by omega); omega)
                        have e2 : r = some (vI gvo) := by
                          rw [hgvo, e0]
                          exact e1
                        clear e1
                        subst e2
                        refine R_s (f' := (84, [some (vR 88), some (vI t), some (vI o), some (vI j), none, none], [vI gvo], LAY (shA A) (shF F), 0, 0)) hc162 0 rfl trivial ?_
                        refine R_if (t := 89) hc162 rfl rfl (fun (c133 : gvo = 0) => ?_) (fun (c133 : ¬ (gvo = 0)) => ?_)
                        · refine R_s (P := True) (f' := (92, [some (vR 88), some (vI t), some (vI o), some (vI j), some (vI 0), none], [], LAY (shA A) (shF F), 0, 0)) hc162 2 rfl trivial ?_
                          exfalso
                          omega
                        · refine R_s (P := True) (f' := (88, [some (vR 88), some (vI t), some (vI o), some (vI j), none, none], [vI 0], LAY (shA A) (shF F), 0, 0)) hc162 1 rfl trivial ?_
                          refine R_reti hc162 rfl rfl ?_
                          first
                            | (exfalso; omega; done)
                            | exact ⟨rfl, A, F, rfl, rfl, REL_c hR0⟩
                    · refine R_s (P := True) (f' := (96, [some (vR 1), some (vI t), some (vI o), some (vI j), some (vI 1)], [vI 1], LAY (shA A) (shF F), 0, 0)) hc86 4 rfl trivial ?_
                      refine R_if (t := 108) hc86 rfl rfl (fun (z : 1 = 0) => absurd z (by decide)) (fun (_ : ¬ (1 = 0)) => ?_)
                      refine R_s (P := True) (f' := (105, [some (vR 1), some (vI t), some (vI o), some (vI j), some (vI 1)], [vI o, vI t, vR 12], LAY (shA A) (shF F), 0, 0)) hc86 4 rfl trivial ?_
                      refine R_cv hc86 rfl rfl (l_exchange (A := (shA A)) (F := (shF F)) (hL 16 (by decide)) (t := t) (o := o) ⟨by omega, by omega⟩ ⟨by omega, by omega⟩ (by omega)) (fun r G9 hp9 => ?_)
                      obtain ⟨rfl, l16, rfl, k16, v16⟩ := hp9
                      refine R_s (f' := (108, [some (vR 1), some (vI t), some (vI o), some (vI j), some (vI 1)], [], LAY (u (shA A) 16 l16) (shF F), 0, 0)) hc86 0 rfl trivial ?_
                      refine R_s (P := True) (f' := (110, [some (vR 1), some (vI t), some (vI o), some (vI j), some (vI 1)], [vI 1], LAY (u (shA A) 16 l16) (shF F), 0, 0)) hc86 1 rfl trivial ?_
                      refine R_cs hc86 rfl rfl ?_ (fun r G h => h)
                      refine R_s (P := True) (f' := (1, [some (vI 1)], [vI 1], LAY (u (shA A) 16 l16) (shF F), 0, 0)) hc95 1 rfl trivial ?_
                      refine R_if (t := 8) hc95 rfl rfl (fun (z : 1 = 0) => absurd z (by decide)) (fun (_ : ¬ (1 = 0)) => ?_)
                      refine R_s (P := True) (f' := (9, [some (vI 1)], [vI 1], LAY (u (shA A) 16 l16) (shF F), 0, 0)) hc95 2 rfl trivial ?_
                      refine R_reti hc95 rfl rfl ?_
                      refine R_s (f' := (113, [some (vR 1), some (vI t), some (vI o), some (vI j), some (vI 1)], [vI 1], LAY (u (shA A) 16 l16) (shF F), 0, 0)) hc86 0 rfl trivial ?_
                      refine R_reti hc86 rfl rfl ⟨⟨_, rfl⟩, ⟨_, _, rfl, rfl⟩, ?_⟩
                      refine R_s (P := True) (f' := (2, [some (vR 88), some (vI t), some (vI o), some (vI j), none, none], [vI t, vR 88], LAY (u (shA A) 16 l16) (shF F), 0, 0)) hc162 2 rfl trivial ?_
                      refine R_cv hc162 rfl rfl ?_ (fun r G h => h)
                      refine R_s (P := inI ((F 4) - 1) ∧ True) (f' := (8, [some (vR 88), some (vI t)], [vI ((F 4) - 1), vI 0, vI t], LAY (u (shA A) 16 l16) (shF F), 0, 0)) hc107 6 rfl ⟨⟨by omega, by omega⟩, trivial⟩ ?_
                      refine R_cs hc107 rfl rfl ?_ (fun r G h => h)
                      refine R_s (P := True) (f' := (2, [some (vI t), some (vI 0), some (vI ((F 4) - 1))], [vI 0, vI t], LAY (u (shA A) 16 l16) (shF F), 0, 0)) hc104 2 rfl trivial ?_
                      refine R_ic (t := 14) hc104 rfl rfl (fun (z : t < 0) => absurd z (by omega)) (fun (_ : ¬ (t < 0)) => ?_)
                      refine R_s (P := True) (f' := (7, [some (vI t), some (vI 0), some (vI ((F 4) - 1))], [vI ((F 4) - 1), vI t], LAY (u (shA A) 16 l16) (shF F), 0, 0)) hc104 2 rfl trivial ?_
                      refine R_ic (t := 14) hc104 rfl rfl (fun (z : (F 4) - 1 < t) => absurd z (by omega)) (fun (_ : ¬ ((F 4) - 1 < t)) => ?_)
                      refine R_s (P := True) (f' := (15, [some (vI t), some (vI 0), some (vI ((F 4) - 1))], [vI 1], LAY (u (shA A) 16 l16) (shF F), 0, 0)) hc104 2 rfl trivial ?_
                      refine R_retz hc104 rfl rfl (Or.inr rfl) ?_
                      refine R_s (f' := (11, [some (vR 88), some (vI t)], [vI 1], LAY (u (shA A) 16 l16) (shF F), 0, 0)) hc107 0 rfl trivial ?_
                      refine R_retz hc107 rfl rfl (Or.inr rfl) ?_
                      refine R_s (f' := (5, [some (vR 88), some (vI t), some (vI o), some (vI j), none, none], [vI 1], LAY (u (shA A) 16 l16) (shF F), 0, 0)) hc162 0 rfl trivial ?_
                      refine R_if (t := 16) hc162 rfl rfl (fun (z : 1 = 0) => absurd z (by decide)) (fun (_ : ¬ (1 = 0)) => ?_)
                      refine R_s (P := True) (f' := (10, [some (vR 88), some (vI t), some (vI o), some (vI j), none, none], [vI o, vR 88], LAY (u (shA A) 16 l16) (shF F), 0, 0)) hc162 2 rfl trivial ?_
                      refine R_cv hc162 rfl rfl ?_ (fun r G h => h)
                      refine R_s (P := inI ((F 4) - 1) ∧ True) (f' := (8, [some (vR 88), some (vI o)], [vI ((F 4) - 1), vI 0, vI o], LAY (u (shA A) 16 l16) (shF F), 0, 0)) hc107 6 rfl ⟨⟨by omega, by omega⟩, trivial⟩ ?_
                      refine R_cs hc107 rfl rfl ?_ (fun r G h => h)
                      refine R_s (P := True) (f' := (2, [some (vI o), some (vI 0), some (vI ((F 4) - 1))], [vI 0, vI o], LAY (u (shA A) 16 l16) (shF F), 0, 0)) hc104 2 rfl trivial ?_
                      refine R_ic (t := 14) hc104 rfl rfl (fun (z : o < 0) => absurd z (by omega)) (fun (_ : ¬ (o < 0)) => ?_)
                      refine R_s (P := True) (f' := (7, [some (vI o), some (vI 0), some (vI ((F 4) - 1))], [vI ((F 4) - 1), vI o], LAY (u (shA A) 16 l16) (shF F), 0, 0)) hc104 2 rfl trivial ?_
                      refine R_ic (t := 14) hc104 rfl rfl (fun (z : (F 4) - 1 < o) => absurd z (by omega)) (fun (_ : ¬ ((F 4) - 1 < o)) => ?_)
                      refine R_s (P := True) (f' := (15, [some (vI o), some (vI 0), some (vI ((F 4) - 1))], [vI 1], LAY (u (shA A) 16 l16) (shF F), 0, 0)) hc104 2 rfl trivial ?_
                      refine R_retz hc104 rfl rfl (Or.inr rfl) ?_
                      refine R_s (f' := (11, [some (vR 88), some (vI o)], [vI 1], LAY (u (shA A) 16 l16) (shF F), 0, 0)) hc107 0 rfl trivial ?_
                      refine R_retz hc107 rfl rfl (Or.inr rfl) ?_
                      refine R_s (f' := (13, [some (vR 88), some (vI t), some (vI o), some (vI j), none, none], [vI 1], LAY (u (shA A) 16 l16) (shF F), 0, 0)) hc162 0 rfl trivial ?_
                      refine R_if (t := 23) hc162 rfl rfl (fun (_ : ¬ 1 = 0) => ?_) (fun (z : ¬ (¬ 1 = 0)) => absurd (by decide) z)
                      refine R_s (P := True) (f' := (25, [some (vR 88), some (vI t), some (vI o), some (vI j), none, none], [vI o, vI t], LAY (u (shA A) 16 l16) (shF F), 0, 0)) hc162 2 rfl trivial ?_
                      refine R_ic (t := 35) hc162 rfl rfl (fun (_ : ¬ t = o) => ?_) (fun (z : ¬ (¬ t = o)) => absurd (show ¬ t = o by omega) z)
                      refine R_s (P := True) (f' := (36, [some (vR 88), some (vI t), some (vI o), some (vI j), none, none], [vI j], LAY (u (shA A) 16 l16) (shF F), 0, 0)) hc162 1 rfl trivial ?_
                      refine R_if (t := 87) hc162 rfl rfl (fun (z : j = 0) => absurd z (by omega)) (fun (_ : ¬ (j = 0)) => ?_)
                      refine R_s (P := True) (f' := (42, [some (vR 88), some (vI t), some (vI o), some (vI j), none, none], [vI o, vI t, vR 88], LAY (u (shA A) 16 l16) (shF F), 0, 0)) hc162 3 rfl trivial ?_
                      refine R_cv hc162 rfl rfl ?_ (fun r G h => h)
                      refine R_s (P := (0 ≤ t ∧ t < ((A 13).length : Int)) ∧ (0 ≤ o ∧ o < ((A 13).length : Int)) ∧ inI ((rd (A 13) t) - (rd (A 13) o)) ∧ (0 ≤ t ∧ t < ((A 13).length : Int)) ∧ (0 ≤ rd (A 13) t ∧ 0 < 10) ∧ True) (f' := (22, [some (vR 88), some (vI t), some (vI o)], [vI ((rd (A 13) t) / 10), vI ((rd (A 13) t) - (rd (A 13) o))], LAY (u (shA A) 16 l16) (shF F), 0, 0)) hc161 15 rfl ⟨⟨by omega, by omega⟩, ⟨by omega, by omega⟩, ⟨by omega, by omega⟩, ⟨by omega, by omega⟩, ⟨by omega, by omega⟩, trivial⟩ ?_
                      refine R_ic (t := 29) hc161 rfl rfl (fun (_ : (rd (A 13) t) - (rd (A 13) o) ≤ (rd (A 13) t) / 10) => ?_) (fun (z : ¬ ((rd (A 13) t) - (rd (A 13) o) ≤ (rd (A 13) t) / 10)) => absurd (show (rd (A 13) t) - (rd (A 13) o) ≤ (rd (A 13) t) / 10 by omega) z)
                      refine R_s (P := True) (f' := (30, [some (vR 88), some (vI t), some (vI o)], [vI 0], LAY (u (shA A) 16 l16) (shF F), 0, 0)) hc161 1 rfl trivial ?_
                      refine R_retz hc161 rfl rfl (Or.inl rfl) ?_
                      refine R_s (f' := (45, [some (vR 88), some (vI t), some (vI o), some (vI j), none, none], [vI 0], LAY (u (shA A) 16 l16) (shF F), 0, 0)) hc162 0 rfl trivial ?_
                      refine R_if (t := 87) hc162 rfl rfl (fun (z : ¬ 0 = 0) => absurd z (by decide)) (fun (_ : ¬ (¬ 0 = 0)) => ?_)
                      refine R_s (P := True) (f' := (51, [some (vR 88), some (vI t), some (vI o), some (vI j), none, none], [vI t, vI o, vR 88], LAY (u (shA A) 16 l16) (shF F), 0, 0)) hc162 3 rfl trivial ?_
                      refine R_cv hc162 rfl rfl ?_ (fun r G h => h)
                      refine R_s (P := (0 ≤ o ∧ o < ((A 13).length : Int)) ∧ (0 ≤ t ∧ t < ((A 13).length : Int)) ∧ inI ((rd (A 13) o) - (rd (A 13) t)) ∧ (0 ≤ o ∧ o < ((A 13).length : Int)) ∧ (0 ≤ rd (A 13) o ∧ 0 < 10) ∧ True) (f' := (22, [some (vR 88), some (vI o), some (vI t)], [vI ((rd (A 13) o) / 10), vI ((rd (A 13) o) - (rd (A 13) t))], LAY (u (shA A) 16 l16) (shF F), 0, 0)) hc161 15 rfl ⟨⟨by omega, by omega⟩, ⟨by omega, by omega⟩, ⟨by omega, by omega⟩, ⟨by omega, by omega⟩, ⟨by omega, by omega⟩, trivial⟩ ?_
                      refine R_ic (t := 29) hc161 rfl rfl (fun (_ : (rd (A 13) o) - (rd (A 13) t) ≤ (rd (A 13) o) / 10) => ?_) (fun (z : ¬ ((rd (A 13) o) - (rd (A 13) t) ≤ (rd (A 13) o) / 10)) => absurd (show (rd (A 13) o) - (rd (A 13) t) ≤ (rd (A 13) o) / 10 by omega) z)
                      refine R_s (P := True) (f' := (30, [some (vR 88), some (vI o), some (vI t)], [vI 0], LAY (u (shA A) 16 l16) (shF F), 0, 0)) hc161 1 rfl trivial ?_
                      refine R_retz hc161 rfl rfl (Or.inl rfl) ?_
                      refine R_s (f' := (54, [some (vR 88), some (vI t), some (vI o), some (vI j), none, none], [vI 0], LAY (u (shA A) 16 l16) (shF F), 0, 0)) hc162 0 rfl trivial ?_
                      refine R_if (t := 87) hc162 rfl rfl (fun (z : ¬ 0 = 0) => absurd z (by decide)) (fun (_ : ¬ (¬ 0 = 0)) => ?_)
                      refine R_s (P := True) (f' := (66, [some (vR 88), some (vI t), some (vI o), some (vI j), none, none], [vI 9999, vI (F 2), vI t, vR 88], LAY (u (shA A) 16 l16) (shF F), 0, 0)) hc162 5 rfl trivial ?_
                      refine R_cv hc162 rfl rfl (l_isLeased (A := (u (shA A) 16 l16)) (F := (shF F)) (T := A 80) (Fr := A 81) (Y := A 82) ⟨le1, le2⟩ (hL 102 (by decide)) (hL 83 (by decide)) (fun i (hi : (i : Int) < F 16) => hLE.1.2.2.1 i (by omega) hi) (fun i (hi : (i : Int) < F 16) => hLE.1.2.2.2 i (by omega) (by omega))) (fun r G9 hp9 => ?_)
                      obtain ⟨e1, rfl⟩ := hp9
                      have e0 : cft = LFc (A 80) (A 81) (A 82) (A 83) t (F 2) (9999 + 1) (F 16).toNat := by
                        rw [hcft]
                        exact LFc_far (fun i hi => by have z := hLE.1.2.2.1 i (by omega) (by omega); omega)
                      have e2 : r = some (vI gvt) := by
                        rw [hgvt, e0]
                        exact e1
                      clear e1
                      subst e2
                      refine R_s (f' := (69, [some (vR 88), some (vI t), some (vI o), some (vI j), none, none], [vI gvt], LAY (u (shA A) 16 l16) (shF F), 0, 0)) hc162 0 rfl trivial ?_
                      refine R_if (t := 87) hc162 rfl rfl (fun (c134 : ¬ gvt = 0) => ?_) (fun (c134 : ¬ (¬ gvt = 0)) => ?_)
                      · refine R_s (P := True) (f' := (88, [some (vR 88), some (vI t), some (vI o), some (vI j), none, none], [vI 0], LAY (u (shA A) 16 l16) (shF F), 0, 0)) hc162 1 rfl trivial ?_
                        refine R_reti hc162 rfl rfl ?_
                        first
                          | (exfalso; omega; done)
                          | exact ⟨(by rw [show 0 = 1 by omega]), (u A 16 l16), F, rfl, rfl, ⟨(LENS_u hL (by show (l16).length = (A 16).length; rw [k16, hL 16 (by decide)]; rfl)), hR0.2.1, (THG_ex hR0.2.2.1 (t := t) (o := o) ⟨by omega, by omega⟩ ⟨by omega, by omega⟩ v16), hR0.2.2.2.1, hR0.2.2.2.2.1, hR0.2.2.2.2.2.1, hR0.2.2.2.2.2.2.1, hR0.2.2.2.2.2.2.2.1, hR0.2.2.2.2.2.2.2.2.1, (REFU_c hR0.2.2.2.2.2.2.2.2.2)⟩⟩
                      · refine R_s (P := True) (f' := (81, [some (vR 88), some (vI t), some (vI o), some (vI j), none, none], [vI 9999, vI (F 2), vI o, vR 88], LAY (u (shA A) 16 l16) (shF F), 0, 0)) hc162 5 rfl trivial ?_
                        refine R_cv hc162 rfl rfl (l_isLeased (A := (u (shA A) 16 l16)) (F := (shF F)) (T := A 80) (Fr := A 81) (Y := A 82) ⟨le1, le2⟩ (hL 102 (by decide)) (hL 83 (by decide)) (fun i (hi : (i : Int) < F 16) => hLE.1.2.2.1 i (by omega) hi) (fun i (hi : (i : Int) < F 16) => hLE.1.2.2.2 i (by omega) (by omega))) (fun r G9 hp9 => ?_)
                        obtain ⟨e1, rfl⟩ := hp9
                        have e0 : cfo = LFc (A 80) (A 81) (A 82) (A 83) o (F 2) (9999 + 1) (F 16).toNat := by
                          rw [hcfo]
                          exact LFc_far (fun i hi => by have z := hLE.1.2.2.1 i (by omega) (by omega); omega)
                        have e2 : r = some (vI gvo) := by
                          rw [hgvo, e0]
                          exact e1
                        clear e1
                        subst e2
                        refine R_s (f' := (84, [some (vR 88), some (vI t), some (vI o), some (vI j), none, none], [vI gvo], LAY (u (shA A) 16 l16) (shF F), 0, 0)) hc162 0 rfl trivial ?_
                        refine R_if (t := 89) hc162 rfl rfl (fun (c135 : gvo = 0) => ?_) (fun (c135 : ¬ (gvo = 0)) => ?_)
                        · refine R_s (P := True) (f' := (92, [some (vR 88), some (vI t), some (vI o), some (vI j), some (vI 0), none], [], LAY (u (shA A) 16 l16) (shF F), 0, 0)) hc162 2 rfl trivial ?_
                          refine swap_M (A := (u (shA A) 16 l16)) (F := (shF F)) (hL 16 (by decide)) (t := t) (o := o) ⟨by omega, by omega⟩ ⟨by omega, by omega⟩ (by omega) (fun x v5 l98 k98 v98 => ?_)
                          have e12 : l98 = l16 := list_ext (by rw [k98, k16]) (fun q hq => by
                            rw [v98 q (by omega), v16 q (by omega)]
                            rfl)
                          rw [e12]
                          refine R_s (P := True) (f' := (158, [some (vR 88), some (vI t), some (vI o), some (vI j), some (vI x), v5], [vI 1], LAY (u (u (shA A) 16 l16) 98 l16) (shF F), 0, 0)) hc162 1 rfl trivial ?_
                          refine R_reti hc162 rfl rfl ?_
                          first
                            | (exfalso; omega; done)
                            | exact ⟨rfl, (u A 16 l16), F, rfl, rfl, ⟨(LENS_u hL (by show (l16).length = (A 16).length; rw [k16, hL 16 (by decide)]; rfl)), hR0.2.1, (THG_ex hR0.2.2.1 (t := t) (o := o) ⟨by omega, by omega⟩ ⟨by omega, by omega⟩ v16), hR0.2.2.2.1, hR0.2.2.2.2.1, hR0.2.2.2.2.2.1, hR0.2.2.2.2.2.2.1, hR0.2.2.2.2.2.2.2.1, hR0.2.2.2.2.2.2.2.2.1, (REFU_c hR0.2.2.2.2.2.2.2.2.2)⟩⟩
                        · refine R_s (P := True) (f' := (88, [some (vR 88), some (vI t), some (vI o), some (vI j), none, none], [vI 0], LAY (u (shA A) 16 l16) (shF F), 0, 0)) hc162 1 rfl trivial ?_
                          refine R_reti hc162 rfl rfl ?_
                          first
                            | (exfalso; omega; done)
                            | exact ⟨(by rw [show 0 = 1 by omega]), (u A 16 l16), F, rfl, rfl, ⟨(LENS_u hL (by show (l16).length = (A 16).length; rw [k16, hL 16 (by decide)]; rfl)), hR0.2.1, (THG_ex hR0.2.2.1 (t := t) (o := o) ⟨by omega, by omega⟩ ⟨by omega, by omega⟩ v16), hR0.2.2.2.1, hR0.2.2.2.2.1, hR0.2.2.2.2.2.1, hR0.2.2.2.2.2.2.1, hR0.2.2.2.2.2.2.2.1, hR0.2.2.2.2.2.2.2.2.1, (REFU_c hR0.2.2.2.2.2.2.2.2.2)⟩⟩
          · refine R_s (P := True) (f' := (37, [some (vR 1), some (vI t), some (vI o), some (vI j), none], [vI (-7), vR 1], LAY (shA A) (shF F), 0, 0)) hc86 2 rfl trivial ?_
            refine R_cv hc86 rfl rfl ?_ (fun r G h => h)
            refine R_s (P := True) (f' := (3, [some (vR 1), some (vI (-7))], [vI (-2), vI (-7)], LAY (shA A) (shF F), 0, 0)) hc93 2 rfl trivial ?_
            refine R_ic (t := 23) hc93 rfl rfl (fun (z : (-2) < (-7)) => absurd z (by decide)) (fun (_ : ¬ ((-2) < (-7))) => ?_)
            refine R_s (P := True) (f' := (9, [some (vR 1), some (vI (-7))], [vI (-8), vI (-7)], LAY (shA A) (shF F), 0, 0)) hc93 2 rfl trivial ?_
            refine R_ic (t := 23) hc93 rfl rfl (fun (z : (-7) < (-8)) => absurd z (by decide)) (fun (_ : ¬ ((-7) < (-8))) => ?_)
            refine R_s (P := inI 7 ∧ (0 ≤ 7 ∧ 7 < ((A 87).length : Int)) ∧ inI ((rd (A 87) 7) + 1) ∧ (0 ≤ 7 ∧ 7 < ((A 87).length : Int)) ∧ True) (f' := (24, [some (vR 1), some (vI (-7))], [vI (-7)], LAY (u (shA A) 87 (wr (A 87) 7 ((rd (A 87) 7) + 1))) (shF F), 0, 0)) hc93 10 rfl ⟨⟨by omega, by omega⟩, ⟨by omega, by omega⟩, ⟨by omega, by omega⟩, ⟨by omega, by omega⟩, trivial⟩ ?_
            refine R_reti hc93 rfl rfl ?_
            refine R_s (f' := (40, [some (vR 1), some (vI t), some (vI o), some (vI j), none], [vI (-7)], LAY (u (shA A) 87 (wr (A 87) 7 ((rd (A 87) 7) + 1))) (shF F), 0, 0)) hc86 0 rfl trivial ?_
            refine R_reti hc86 rfl rfl ⟨⟨_, rfl⟩, ⟨_, _, rfl, rfl⟩, ?_⟩
            refine R_s (P := True) (f' := (2, [some (vR 88), some (vI t), some (vI o), some (vI j), none, none], [vI t, vR 88], LAY (u (shA A) 87 (wr (A 87) 7 ((rd (A 87) 7) + 1))) (shF F), 0, 0)) hc162 2 rfl trivial ?_
            refine R_cv hc162 rfl rfl ?_ (fun r G h => h)
            refine R_s (P := inI ((F 4) - 1) ∧ True) (f' := (8, [some (vR 88), some (vI t)], [vI ((F 4) - 1), vI 0, vI t], LAY (u (shA A) 87 (wr (A 87) 7 ((rd (A 87) 7) + 1))) (shF F), 0, 0)) hc107 6 rfl ⟨⟨by omega, by omega⟩, trivial⟩ ?_
            refine R_cs hc107 rfl rfl ?_ (fun r G h => h)
            refine R_s (P := True) (f' := (2, [some (vI t), some (vI 0), some (vI ((F 4) - 1))], [vI 0, vI t], LAY (u (shA A) 87 (wr (A 87) 7 ((rd (A 87) 7) + 1))) (shF F), 0, 0)) hc104 2 rfl trivial ?_
            refine R_ic (t := 14) hc104 rfl rfl (fun (z : t < 0) => absurd z (by omega)) (fun (_ : ¬ (t < 0)) => ?_)
            refine R_s (P := True) (f' := (7, [some (vI t), some (vI 0), some (vI ((F 4) - 1))], [vI ((F 4) - 1), vI t], LAY (u (shA A) 87 (wr (A 87) 7 ((rd (A 87) 7) + 1))) (shF F), 0, 0)) hc104 2 rfl trivial ?_
            refine R_ic (t := 14) hc104 rfl rfl (fun (z : (F 4) - 1 < t) => absurd z (by omega)) (fun (_ : ¬ ((F 4) - 1 < t)) => ?_)
            refine R_s (P := True) (f' := (15, [some (vI t), some (vI 0), some (vI ((F 4) - 1))], [vI 1], LAY (u (shA A) 87 (wr (A 87) 7 ((rd (A 87) 7) + 1))) (shF F), 0, 0)) hc104 2 rfl trivial ?_
            refine R_retz hc104 rfl rfl (Or.inr rfl) ?_
            refine R_s (f' := (11, [some (vR 88), some (vI t)], [vI 1], LAY (u (shA A) 87 (wr (A 87) 7 ((rd (A 87) 7) + 1))) (shF F), 0, 0)) hc107 0 rfl trivial ?_
            refine R_retz hc107 rfl rfl (Or.inr rfl) ?_
            refine R_s (f' := (5, [some (vR 88), some (vI t), some (vI o), some (vI j), none, none], [vI 1], LAY (u (shA A) 87 (wr (A 87) 7 ((rd (A 87) 7) + 1))) (shF F), 0, 0)) hc162 0 rfl trivial ?_
            refine R_if (t := 16) hc162 rfl rfl (fun (z : 1 = 0) => absurd z (by decide)) (fun (_ : ¬ (1 = 0)) => ?_)
            refine R_s (P := True) (f' := (10, [some (vR 88), some (vI t), some (vI o), some (vI j), none, none], [vI o, vR 88], LAY (u (shA A) 87 (wr (A 87) 7 ((rd (A 87) 7) + 1))) (shF F), 0, 0)) hc162 2 rfl trivial ?_
            refine R_cv hc162 rfl rfl ?_ (fun r G h => h)
            refine R_s (P := inI ((F 4) - 1) ∧ True) (f' := (8, [some (vR 88), some (vI o)], [vI ((F 4) - 1), vI 0, vI o], LAY (u (shA A) 87 (wr (A 87) 7 ((rd (A 87) 7) + 1))) (shF F), 0, 0)) hc107 6 rfl ⟨⟨by omega, by omega⟩, trivial⟩ ?_
            refine R_cs hc107 rfl rfl ?_ (fun r G h => h)
            refine R_s (P := True) (f' := (2, [some (vI o), some (vI 0), some (vI ((F 4) - 1))], [vI 0, vI o], LAY (u (shA A) 87 (wr (A 87) 7 ((rd (A 87) 7) + 1))) (shF F), 0, 0)) hc104 2 rfl trivial ?_
            refine R_ic (t := 14) hc104 rfl rfl (fun (z : o < 0) => absurd z (by omega)) (fun (_ : ¬ (o < 0)) => ?_)
            refine R_s (P := True) (f' := (7, [some (vI o), some (vI 0), some (vI ((F 4) - 1))], [vI ((F 4) - 1), vI o], LAY (u (shA A) 87 (wr (A 87) 7 ((rd (A 87) 7) + 1))) (shF F), 0, 0)) hc104 2 rfl trivial ?_
            refine R_ic (t := 14) hc104 rfl rfl (fun (z : (F 4) - 1 < o) => absurd z (by omega)) (fun (_ : ¬ ((F 4) - 1 < o)) => ?_)
            refine R_s (P := True) (f' := (15, [some (vI o), some (vI 0), some (vI ((F 4) - 1))], [vI 1], LAY (u (shA A) 87 (wr (A 87) 7 ((rd (A 87) 7) + 1))) (shF F), 0, 0)) hc104 2 rfl trivial ?_
            refine R_retz hc104 rfl rfl (Or.inr rfl) ?_
            refine R_s (f' := (11, [some (vR 88), some (vI o)], [vI 1], LAY (u (shA A) 87 (wr (A 87) 7 ((rd (A 87) 7) + 1))) (shF F), 0, 0)) hc107 0 rfl trivial ?_
            refine R_retz hc107 rfl rfl (Or.inr rfl) ?_
            refine R_s (f' := (13, [some (vR 88), some (vI t), some (vI o), some (vI j), none, none], [vI 1], LAY (u (shA A) 87 (wr (A 87) 7 ((rd (A 87) 7) + 1))) (shF F), 0, 0)) hc162 0 rfl trivial ?_
            refine R_if (t := 23) hc162 rfl rfl (fun (_ : ¬ 1 = 0) => ?_) (fun (z : ¬ (¬ 1 = 0)) => absurd (by decide) z)
            refine R_s (P := True) (f' := (25, [some (vR 88), some (vI t), some (vI o), some (vI j), none, none], [vI o, vI t], LAY (u (shA A) 87 (wr (A 87) 7 ((rd (A 87) 7) + 1))) (shF F), 0, 0)) hc162 2 rfl trivial ?_
            refine R_ic (t := 35) hc162 rfl rfl (fun (z : ¬ t = o) => absurd z (by omega)) (fun (_ : ¬ (¬ t = o)) => ?_)
            refine R_s (P := True) (f' := (31, [some (vR 88), some (vI t), some (vI o), some (vI j), none, none], [vI (-7), vR 88], LAY (u (shA A) 87 (wr (A 87) 7 ((rd (A 87) 7) + 1))) (shF F), 0, 0)) hc162 2 rfl trivial ?_
            refine R_cv hc162 rfl rfl ?_ (fun r G h => h)
            refine R_s (P := inI 7 ∧ (0 ≤ 7 ∧ 7 < ((A 87).length : Int)) ∧ inI ((rd (A 87) 7) + 1) ∧ (0 ≤ 7 ∧ 7 < ((A 87).length : Int)) ∧ True) (f' := (12, [some (vR 88), some (vI (-7))], [vI (-7)], LAY (u (u (shA A) 87 (wr (A 87) 7 ((rd (A 87) 7) + 1))) 89 (wr (A 87) 7 ((rd (A 87) 7) + 1))) (shF F), 0, 0)) hc105 10 rfl ⟨⟨by omega, by omega⟩, ⟨by omega, by omega⟩, ⟨by omega, by omega⟩, ⟨by omega, by omega⟩, trivial⟩ ?_
            refine R_reti hc105 rfl rfl ?_
            refine R_s (f' := (34, [some (vR 88), some (vI t), some (vI o), some (vI j), none, none], [vI (-7)], LAY (u (u (shA A) 87 (wr (A 87) 7 ((rd (A 87) 7) + 1))) 89 (wr (A 87) 7 ((rd (A 87) 7) + 1))) (shF F), 0, 0)) hc162 0 rfl trivial ?_
            refine R_reti hc162 rfl rfl ?_
            first
              | (exfalso; omega; done)
              | exact ⟨rfl, (u A 87 (wr (A 87) 7 ((rd (A 87) 7) + 1))), F, rfl, rfl, REL_ref hR0 (by decide) (by decide)⟩

