set_option maxHeartbeats 8000000 in
theorem op_copy {c : Int} {A : Nat → List Int} {F : Nat → Int} (hR : REL c A F) (hc : c < 512) (a b n : Int) (i_a : inI a) (i_b : inI b) (i_n : inI n) : R 91 (0, L0 91 [vR 1, vI a, vI b, vI n], [], LAY (shA A) (shF F), 0, 0) (fun r G => (∃ x, r = some (vI x)) ∧ (∃ (A1 : Nat → List Int) (F1 : Nat → Int), G = LAY A1 F1 ∧ A1 0 = A 0) ∧ R 167 (0, L0 167 [vR 88, vI a, vI b, vI n], [], G, 0, 0) (fun r2 G2 => r2 = r ∧ ∃ (A' : Nat → List Int) (F' : Nat → Int), G2 = LAY (shA A') (shF F') ∧ A' 0 = A 0 ∧ REL (c + 1) A' F')) := by
  have hR0 := hR
  obtain ⟨hL, hPE, hTH, hTP, hDE, hLE, hNO, hAC, hRO, hRE⟩ := hR
  have j_a := i_a
  unfold inI at j_a
  have j_b := i_b
  unfold inI at j_b
  have j_n := i_n
  unfold inI at j_n
  have h87 : (A 87).length = 9 := hL 87 (by decide)
  have h86 : (A 86).length = 30 := hL 86 (by decide)
  have r2 := REFU_at hRE (k := 2) (by decide) (by decide) hc
  have r3 := REFU_at hRE (k := 3) (by decide) (by decide) hc
  have r4 := REFU_at hRE (k := 4) (by decide) (by decide) hc
  have r5 := REFU_at hRE (k := 5) (by decide) (by decide) hc
  have r6 := REFU_at hRE (k := 6) (by decide) (by decide) hc
  have r7 := REFU_at hRE (k := 7) (by decide) (by decide) hc
  have r8 := REFU_at hRE (k := 8) (by decide) (by decide) hc
  obtain ⟨t1, t2, t3, t4, t5, t6⟩ := hTH
  obtain ⟨p1, p2, p3, p4, p5, p6⟩ := hPE
  obtain ⟨ro1, ro2⟩ := hRO
  refine R_s (P := True) (f' := (5, [some (vR 1), some (vI a), some (vI b), some (vI n)], [vI (-1), vI (F 1)], LAY (shA A) (shF F), 0, 0)) hc91 3 rfl trivial ?_
  refine R_ic (t := 15) hc91 rfl rfl (fun (c1 : ¬ F 1 = (-1)) => ?_) (fun (c1 : ¬ (¬ F 1 = (-1))) => ?_)
  · refine R_s (P := True) (f' := (16, [some (vR 1), some (vI a), some (vI b), some (vI n)], [vI n], LAY (shA A) (shF F), 0, 0)) hc91 1 rfl trivial ?_
    refine R_if (t := 26) hc91 rfl rfl (fun (c2 : 0 ≤ n) => ?_) (fun (c2 : ¬ (0 ≤ n)) => ?_)
    · refine R_s (P := True) (f' := (27, [some (vR 1), some (vI a), some (vI b), some (vI n)], [vI a], LAY (shA A) (shF F), 0, 0)) hc91 1 rfl trivial ?_
      refine R_if (t := 62) hc91 rfl rfl (fun (c3 : a < 0) => ?_) (fun (c3 : ¬ (a < 0)) => ?_)
      · refine R_s (P := True) (f' := (65, [some (vR 1), some (vI a), some (vI b), some (vI n)], [vI (-6), vR 1], LAY (shA A) (shF F), 0, 0)) hc91 2 rfl trivial ?_
        refine R_cv hc91 rfl rfl ?_ (fun r G h => h)
        refine R_s (P := True) (f' := (3, [some (vR 1), some (vI (-6))], [vI (-2), vI (-6)], LAY (shA A) (shF F), 0, 0)) hc93 2 rfl trivial ?_
        refine R_ic (t := 23) hc93 rfl rfl (fun (z : (-2) < (-6)) => absurd z (by decide)) (fun (_ : ¬ ((-2) < (-6))) => ?_)
        refine R_s (P := True) (f' := (9, [some (vR 1), some (vI (-6))], [vI (-8), vI (-6)], LAY (shA A) (shF F), 0, 0)) hc93 2 rfl trivial ?_
        refine R_ic (t := 23) hc93 rfl rfl (fun (z : (-6) < (-8)) => absurd z (by decide)) (fun (_ : ¬ ((-6) < (-8))) => ?_)
        refine R_s (P := inI 6 ∧ (0 ≤ 6 ∧ 6 < ((A 87).length : Int)) ∧ inI ((rd (A 87) 6) + 1) ∧ (0 ≤ 6 ∧ 6 < ((A 87).length : Int)) ∧ True) (f' := (24, [some (vR 1), some (vI (-6))], [vI (-6)], LAY (u (shA A) 87 (wr (A 87) 6 ((rd (A 87) 6) + 1))) (shF F), 0, 0)) hc93 10 rfl ⟨⟨by omega, by omega⟩, ⟨by omega, by omega⟩, ⟨by omega, by omega⟩, ⟨by omega, by omega⟩, trivial⟩ ?_
        refine R_reti hc93 rfl rfl ?_
        refine R_s (f' := (68, [some (vR 1), some (vI a), some (vI b), some (vI n)], [vI (-6)], LAY (u (shA A) 87 (wr (A 87) 6 ((rd (A 87) 6) + 1))) (shF F), 0, 0)) hc91 0 rfl trivial ?_
        refine R_reti hc91 rfl rfl ⟨⟨_, rfl⟩, ⟨_, _, rfl, rfl⟩, ?_⟩
        refine R_s (P := True) (f' := (5, [some (vR 88), some (vI a), some (vI b), some (vI n), none], [vI (-1), vI (F 1)], LAY (u (shA A) 87 (wr (A 87) 6 ((rd (A 87) 6) + 1))) (shF F), 0, 0)) hc167 3 rfl trivial ?_
        refine R_ic (t := 15) hc167 rfl rfl (fun (_ : ¬ F 1 = (-1)) => ?_) (fun (z : ¬ (¬ F 1 = (-1))) => absurd (show ¬ F 1 = (-1) by omega) z)
        refine R_s (P := True) (f' := (16, [some (vR 88), some (vI a), some (vI b), some (vI n), none], [vI n], LAY (u (shA A) 87 (wr (A 87) 6 ((rd (A 87) 6) + 1))) (shF F), 0, 0)) hc167 1 rfl trivial ?_
        refine R_if (t := 26) hc167 rfl rfl (fun (_ : 0 ≤ n) => ?_) (fun (z : ¬ (0 ≤ n)) => absurd (show 0 ≤ n by omega) z)
        refine R_s (P := True) (f' := (27, [some (vR 88), some (vI a), some (vI b), some (vI n), none], [vI a], LAY (u (shA A) 87 (wr (A 87) 6 ((rd (A 87) 6) + 1))) (shF F), 0, 0)) hc167 1 rfl trivial ?_
        refine R_if (t := 70) hc167 rfl rfl (fun (_ : a < 0) => ?_) (fun (z : ¬ (a < 0)) => absurd (show a < 0 by omega) z)
        refine R_s (P := True) (f' := (73, [some (vR 88), some (vI a), some (vI b), some (vI n), none], [vI (-6), vR 88], LAY (u (shA A) 87 (wr (A 87) 6 ((rd (A 87) 6) + 1))) (shF F), 0, 0)) hc167 2 rfl trivial ?_
        refine R_cv hc167 rfl rfl ?_ (fun r G h => h)
        refine R_s (P := inI 6 ∧ (0 ≤ 6 ∧ 6 < ((A 87).length : Int)) ∧ inI ((rd (A 87) 6) + 1) ∧ (0 ≤ 6 ∧ 6 < ((A 87).length : Int)) ∧ True) (f' := (12, [some (vR 88), some (vI (-6))], [vI (-6)], LAY (u (u (shA A) 87 (wr (A 87) 6 ((rd (A 87) 6) + 1))) 89 (wr (A 87) 6 ((rd (A 87) 6) + 1))) (shF F), 0, 0)) hc105 10 rfl ⟨⟨by omega, by omega⟩, ⟨by omega, by omega⟩, ⟨by omega, by omega⟩, ⟨by omega, by omega⟩, trivial⟩ ?_
        refine R_reti hc105 rfl rfl ?_
        refine R_s (f' := (76, [some (vR 88), some (vI a), some (vI b), some (vI n), none], [vI (-6)], LAY (u (u (shA A) 87 (wr (A 87) 6 ((rd (A 87) 6) + 1))) 89 (wr (A 87) 6 ((rd (A 87) 6) + 1))) (shF F), 0, 0)) hc167 0 rfl trivial ?_
        refine R_reti hc167 rfl rfl ?_
        first
          | (exfalso; omega; done)
          | exact ⟨rfl, (u A 87 (wr (A 87) 6 ((rd (A 87) 6) + 1))), F, rfl, rfl, REL_ref hR0 (by decide) (by decide)⟩
      · refine R_s (P := True) (f' := (31, [some (vR 1), some (vI a), some (vI b), some (vI n)], [vI b], LAY (shA A) (shF F), 0, 0)) hc91 1 rfl trivial ?_
        refine R_if (t := 62) hc91 rfl rfl (fun (c6 : b < 0) => ?_) (fun (c6 : ¬ (b < 0)) => ?_)
        · refine R_s (P := True) (f' := (65, [some (vR 1), some (vI a), some (vI b), some (vI n)], [vI (-6), vR 1], LAY (shA A) (shF F), 0, 0)) hc91 2 rfl trivial ?_
          refine R_cv hc91 rfl rfl ?_ (fun r G h => h)
          refine R_s (P := True) (f' := (3, [some (vR 1), some (vI (-6))], [vI (-2), vI (-6)], LAY (shA A) (shF F), 0, 0)) hc93 2 rfl trivial ?_
          refine R_ic (t := 23) hc93 rfl rfl (fun (z : (-2) < (-6)) => absurd z (by decide)) (fun (_ : ¬ ((-2) < (-6))) => ?_)
          refine R_s (P := True) (f' := (9, [some (vR 1), some (vI (-6))], [vI (-8), vI (-6)], LAY (shA A) (shF F), 0, 0)) hc93 2 rfl trivial ?_
          refine R_ic (t := 23) hc93 rfl rfl (fun (z : (-6) < (-8)) => absurd z (by decide)) (fun (_ : ¬ ((-6) < (-8))) => ?_)
          refine R_s (P := inI 6 ∧ (0 ≤ 6 ∧ 6 < ((A 87).length : Int)) ∧ inI ((rd (A 87) 6) + 1) ∧ (0 ≤ 6 ∧ 6 < ((A 87).length : Int)) ∧ True) (f' := (24, [some (vR 1), some (vI (-6))], [vI (-6)], LAY (u (shA A) 87 (wr (A 87) 6 ((rd (A 87) 6) + 1))) (shF F), 0, 0)) hc93 10 rfl ⟨⟨by omega, by omega⟩, ⟨by omega, by omega⟩, ⟨by omega, by omega⟩, ⟨by omega, by omega⟩, trivial⟩ ?_
          refine R_reti hc93 rfl rfl ?_
          refine R_s (f' := (68, [some (vR 1), some (vI a), some (vI b), some (vI n)], [vI (-6)], LAY (u (shA A) 87 (wr (A 87) 6 ((rd (A 87) 6) + 1))) (shF F), 0, 0)) hc91 0 rfl trivial ?_
          refine R_reti hc91 rfl rfl ⟨⟨_, rfl⟩, ⟨_, _, rfl, rfl⟩, ?_⟩
          refine R_s (P := True) (f' := (5, [some (vR 88), some (vI a), some (vI b), some (vI n), none], [vI (-1), vI (F 1)], LAY (u (shA A) 87 (wr (A 87) 6 ((rd (A 87) 6) + 1))) (shF F), 0, 0)) hc167 3 rfl trivial ?_
          refine R_ic (t := 15) hc167 rfl rfl (fun (_ : ¬ F 1 = (-1)) => ?_) (fun (z : ¬ (¬ F 1 = (-1))) => absurd (show ¬ F 1 = (-1) by omega) z)
          refine R_s (P := True) (f' := (16, [some (vR 88), some (vI a), some (vI b), some (vI n), none], [vI n], LAY (u (shA A) 87 (wr (A 87) 6 ((rd (A 87) 6) + 1))) (shF F), 0, 0)) hc167 1 rfl trivial ?_
          refine R_if (t := 26) hc167 rfl rfl (fun (_ : 0 ≤ n) => ?_) (fun (z : ¬ (0 ≤ n)) => absurd (show 0 ≤ n by omega) z)
          refine R_s (P := True) (f' := (27, [some (vR 88), some (vI a), some (vI b), some (vI n), none], [vI a], LAY (u (shA A) 87 (wr (A 87) 6 ((rd (A 87) 6) + 1))) (shF F), 0, 0)) hc167 1 rfl trivial ?_
          refine R_if (t := 70) hc167 rfl rfl (fun (z : a < 0) => absurd z (by omega)) (fun (_ : ¬ (a < 0)) => ?_)
          refine R_s (P := True) (f' := (31, [some (vR 88), some (vI a), some (vI b), some (vI n), none], [vI b], LAY (u (shA A) 87 (wr (A 87) 6 ((rd (A 87) 6) + 1))) (shF F), 0, 0)) hc167 1 rfl trivial ?_
          refine R_if (t := 70) hc167 rfl rfl (fun (_ : b < 0) => ?_) (fun (z : ¬ (b < 0)) => absurd (show b < 0 by omega) z)
          refine R_s (P := True) (f' := (73, [some (vR 88), some (vI a), some (vI b), some (vI n), none], [vI (-6), vR 88], LAY (u (shA A) 87 (wr (A 87) 6 ((rd (A 87) 6) + 1))) (shF F), 0, 0)) hc167 2 rfl trivial ?_
          refine R_cv hc167 rfl rfl ?_ (fun r G h => h)
          refine R_s (P := inI 6 ∧ (0 ≤ 6 ∧ 6 < ((A 87).length : Int)) ∧ inI ((rd (A 87) 6) + 1) ∧ (0 ≤ 6 ∧ 6 < ((A 87).length : Int)) ∧ True) (f' := (12, [some (vR 88), some (vI (-6))], [vI (-6)], LAY (u (u (shA A) 87 (wr (A 87) 6 ((rd (A 87) 6) + 1))) 89 (wr (A 87) 6 ((rd (A 87) 6) + 1))) (shF F), 0, 0)) hc105 10 rfl ⟨⟨by omega, by omega⟩, ⟨by omega, by omega⟩, ⟨by omega, by omega⟩, ⟨by omega, by omega⟩, trivial⟩ ?_
          refine R_reti hc105 rfl rfl ?_
          refine R_s (f' := (76, [some (vR 88), some (vI a), some (vI b), some (vI n), none], [vI (-6)], LAY (u (u (shA A) 87 (wr (A 87) 6 ((rd (A 87) 6) + 1))) 89 (wr (A 87) 6 ((rd (A 87) 6) + 1))) (shF F), 0, 0)) hc167 0 rfl trivial ?_
          refine R_reti hc167 rfl rfl ?_
          first
            | (exfalso; omega; done)
            | exact ⟨rfl, (u A 87 (wr (A 87) 6 ((rd (A 87) 6) + 1))), F, rfl, rfl, REL_ref hR0 (by decide) (by decide)⟩
        · refine R_s (P := True) (f' := (39, [some (vR 1), some (vI a), some (vI b), some (vI n)], [vI (F 1), vI n], LAY (shA A) (shF F), 0, 0)) hc91 3 rfl trivial ?_
          refine R_ic (t := 62) hc91 rfl rfl (fun (c9 : F 1 < n) => ?_) (fun (c9 : ¬ (F 1 < n)) => ?_)
          · refine R_s (P := True) (f' := (65, [some (vR 1), some (vI a), some (vI b), some (vI n)], [vI (-6), vR 1], LAY (shA A) (shF F), 0, 0)) hc91 2 rfl trivial ?_
            refine R_cv hc91 rfl rfl ?_ (fun r G h => h)
            refine R_s (P := True) (f' := (3, [some (vR 1), some (vI (-6))], [vI (-2), vI (-6)], LAY (shA A) (shF F), 0, 0)) hc93 2 rfl trivial ?_
            refine R_ic (t := 23) hc93 rfl rfl (fun (z : (-2) < (-6)) => absurd z (by decide)) (fun (_ : ¬ ((-2) < (-6))) => ?_)
            refine R_s (P := True) (f' := (9, [some (vR 1), some (vI (-6))], [vI (-8), vI (-6)], LAY (shA A) (shF F), 0, 0)) hc93 2 rfl trivial ?_
            refine R_ic (t := 23) hc93 rfl rfl (fun (z : (-6) < (-8)) => absurd z (by decide)) (fun (_ : ¬ ((-6) < (-8))) => ?_)
            refine R_s (P := inI 6 ∧ (0 ≤ 6 ∧ 6 < ((A 87).length : Int)) ∧ inI ((rd (A 87) 6) + 1) ∧ (0 ≤ 6 ∧ 6 < ((A 87).length : Int)) ∧ True) (f' := (24, [some (vR 1), some (vI (-6))], [vI (-6)], LAY (u (shA A) 87 (wr (A 87) 6 ((rd (A 87) 6) + 1))) (shF F), 0, 0)) hc93 10 rfl ⟨⟨by omega, by omega⟩, ⟨by omega, by omega⟩, ⟨by omega, by omega⟩, ⟨by omega, by omega⟩, trivial⟩ ?_
            refine R_reti hc93 rfl rfl ?_
            refine R_s (f' := (68, [some (vR 1), some (vI a), some (vI b), some (vI n)], [vI (-6)], LAY (u (shA A) 87 (wr (A 87) 6 ((rd (A 87) 6) + 1))) (shF F), 0, 0)) hc91 0 rfl trivial ?_
            refine R_reti hc91 rfl rfl ⟨⟨_, rfl⟩, ⟨_, _, rfl, rfl⟩, ?_⟩
            refine R_s (P := True) (f' := (5, [some (vR 88), some (vI a), some (vI b), some (vI n), none], [vI (-1), vI (F 1)], LAY (u (shA A) 87 (wr (A 87) 6 ((rd (A 87) 6) + 1))) (shF F), 0, 0)) hc167 3 rfl trivial ?_
            refine R_ic (t := 15) hc167 rfl rfl (fun (_ : ¬ F 1 = (-1)) => ?_) (fun (z : ¬ (¬ F 1 = (-1))) => absurd (show ¬ F 1 = (-1) by omega) z)
            refine R_s (P := True) (f' := (16, [some (vR 88), some (vI a), some (vI b), some (vI n), none], [vI n], LAY (u (shA A) 87 (wr (A 87) 6 ((rd (A 87) 6) + 1))) (shF F), 0, 0)) hc167 1 rfl trivial ?_
            refine R_if (t := 26) hc167 rfl rfl (fun (_ : 0 ≤ n) => ?_) (fun (z : ¬ (0 ≤ n)) => absurd (show 0 ≤ n by omega) z)
            refine R_s (P := True) (f' := (27, [some (vR 88), some (vI a), some (vI b), some (vI n), none], [vI a], LAY (u (shA A) 87 (wr (A 87) 6 ((rd (A 87) 6) + 1))) (shF F), 0, 0)) hc167 1 rfl trivial ?_
            refine R_if (t := 70) hc167 rfl rfl (fun (z : a < 0) => absurd z (by omega)) (fun (_ : ¬ (a < 0)) => ?_)
            refine R_s (P := True) (f' := (31, [some (vR 88), some (vI a), some (vI b), some (vI n), none], [vI b], LAY (u (shA A) 87 (wr (A 87) 6 ((rd (A 87) 6) + 1))) (shF F), 0, 0)) hc167 1 rfl trivial ?_
            refine R_if (t := 70) hc167 rfl rfl (fun (z : b < 0) => absurd z (by omega)) (fun (_ : ¬ (b < 0)) => ?_)
            refine R_s (P := True) (f' := (39, [some (vR 88), some (vI a), some (vI b), some (vI n), none], [vI (F 1), vI a], LAY (u (shA A) 87 (wr (A 87) 6 ((rd (A 87) 6) + 1))) (shF F), 0, 0)) hc167 3 rfl trivial ?_
            refine R_ic (t := 70) hc167 rfl rfl (fun (c116 : F 1 < a) => ?_) (fun (c116 : ¬ (F 1 < a)) => ?_)
            · refine R_s (P := True) (f' := (73, [some (vR 88), some (vI a), some (vI b), some (vI n), none], [vI (-6), vR 88], LAY (u (shA A) 87 (wr (A 87) 6 ((rd (A 87) 6) + 1))) (shF F), 0, 0)) hc167 2 rfl trivial ?_
              refine R_cv hc167 rfl rfl ?_ (fun r G h => h)
              refine R_s (P := inI 6 ∧ (0 ≤ 6 ∧ 6 < ((A 87).length : Int)) ∧ inI ((rd (A 87) 6) + 1) ∧ (0 ≤ 6 ∧ 6 < ((A 87).length : Int)) ∧ True) (f' := (12, [some (vR 88), some (vI (-6))], [vI (-6)], LAY (u (u (shA A) 87 (wr (A 87) 6 ((rd (A 87) 6) + 1))) 89 (wr (A 87) 6 ((rd (A 87) 6) + 1))) (shF F), 0, 0)) hc105 10 rfl ⟨⟨by omega, by omega⟩, ⟨by omega, by omega⟩, ⟨by omega, by omega⟩, ⟨by omega, by omega⟩, trivial⟩ ?_
              refine R_reti hc105 rfl rfl ?_
              refine R_s (f' := (76, [some (vR 88), some (vI a), some (vI b), some (vI n), none], [vI (-6)], LAY (u (u (shA A) 87 (wr (A 87) 6 ((rd (A 87) 6) + 1))) 89 (wr (A 87) 6 ((rd (A 87) 6) + 1))) (shF F), 0, 0)) hc167 0 rfl trivial ?_
              refine R_reti hc167 rfl rfl ?_
              first
                | (exfalso; omega; done)
                | exact ⟨rfl, (u A 87 (wr (A 87) 6 ((rd (A 87) 6) + 1))), F, rfl, rfl, REL_ref hR0 (by decide) (by decide)⟩
            · refine R_s (P := True) (f' := (47, [some (vR 88), some (vI a), some (vI b), some (vI n), none], [vI (F 1), vI b], LAY (u (shA A) 87 (wr (A 87) 6 ((rd (A 87) 6) + 1))) (shF F), 0, 0)) hc167 3 rfl trivial ?_
              refine R_ic (t := 70) hc167 rfl rfl (fun (c117 : F 1 < b) => ?_) (fun (c117 : ¬ (F 1 < b)) => ?_)
              · refine R_s (P := True) (f' := (73, [some (vR 88), some (vI a), some (vI b), some (vI n), none], [vI (-6), vR 88], LAY (u (shA A) 87 (wr (A 87) 6 ((rd (A 87) 6) + 1))) (shF F), 0, 0)) hc167 2 rfl trivial ?_
                refine R_cv hc167 rfl rfl ?_ (fun r G h => h)
                refine R_s (P := inI 6 ∧ (0 ≤ 6 ∧ 6 < ((A 87).length : Int)) ∧ inI ((rd (A 87) 6) + 1) ∧ (0 ≤ 6 ∧ 6 < ((A 87).length : Int)) ∧ True) (f' := (12, [some (vR 88), some (vI (-6))], [vI (-6)], LAY (u (u (shA A) 87 (wr (A 87) 6 ((rd (A 87) 6) + 1))) 89 (wr (A 87) 6 ((rd (A 87) 6) + 1))) (shF F), 0, 0)) hc105 10 rfl ⟨⟨by omega, by omega⟩, ⟨by omega, by omega⟩, ⟨by omega, by omega⟩, ⟨by omega, by omega⟩, trivial⟩ ?_
                refine R_reti hc105 rfl rfl ?_
                refine R_s (f' := (76, [some (vR 88), some (vI a), some (vI b), some (vI n), none], [vI (-6)], LAY (u (u (shA A) 87 (wr (A 87) 6 ((rd (A 87) 6) + 1))) 89 (wr (A 87) 6 ((rd (A 87) 6) + 1))) (shF F), 0, 0)) hc167 0 rfl trivial ?_
                refine R_reti hc167 rfl rfl ?_
                first
                  | (exfalso; omega; done)
                  | exact ⟨rfl, (u A 87 (wr (A 87) 6 ((rd (A 87) 6) + 1))), F, rfl, rfl, REL_ref hR0 (by decide) (by decide)⟩
              · refine R_s (P := inI ((F 1) - a) ∧ True) (f' := (57, [some (vR 88), some (vI a), some (vI b), some (vI n), none], [vI ((F 1) - a), vI n], LAY (u (shA A) 87 (wr (A 87) 6 ((rd (A 87) 6) + 1))) (shF F), 0, 0)) hc167 5 rfl ⟨⟨by omega, by omega⟩, trivial⟩ ?_
                refine R_ic (t := 70) hc167 rfl rfl (fun (c118 : (F 1) - a < n) => ?_) (fun (c118 : ¬ ((F 1) - a < n)) => ?_)
                · refine R_s (P := True) (f' := (73, [some (vR 88), some (vI a), some (vI b), some (vI n), none], [vI (-6), vR 88], LAY (u (shA A) 87 (wr (A 87) 6 ((rd (A 87) 6) + 1))) (shF F), 0, 0)) hc167 2 rfl trivial ?_
                  refine R_cv hc167 rfl rfl ?_ (fun r G h => h)
                  refine R_s (P := inI 6 ∧ (0 ≤ 6 ∧ 6 < ((A 87).length : Int)) ∧ inI ((rd (A 87) 6) + 1) ∧ (0 ≤ 6 ∧ 6 < ((A 87).length : Int)) ∧ True) (f' := (12, [some (vR 88), some (vI (-6))], [vI (-6)], LAY (u (u (shA A) 87 (wr (A 87) 6 ((rd (A 87) 6) + 1))) 89 (wr (A 87) 6 ((rd (A 87) 6) + 1))) (shF F), 0, 0)) hc105 10 rfl ⟨⟨by omega, by omega⟩, ⟨by omega, by omega⟩, ⟨by omega, by omega⟩, ⟨by omega, by omega⟩, trivial⟩ ?_
                  refine R_reti hc105 rfl rfl ?_
                  refine R_s (f' := (76, [some (vR 88), some (vI a), some (vI b), some (vI n), none], [vI (-6)], LAY (u (u (shA A) 87 (wr (A 87) 6 ((rd (A 87) 6) + 1))) 89 (wr (A 87) 6 ((rd (A 87) 6) + 1))) (shF F), 0, 0)) hc167 0 rfl trivial ?_
                  refine R_reti hc167 rfl rfl ?_
                  first
                    | (exfalso; omega; done)
                    | exact ⟨rfl, (u A 87 (wr (A 87) 6 ((rd (A 87) 6) + 1))), F, rfl, rfl, REL_ref hR0 (by decide) (by decide)⟩
                · refine R_s (P := inI ((F 1) - b) ∧ True) (f' := (67, [some (vR 88), some (vI a), some (vI b), some (vI n), none], [vI ((F 1) - b), vI n], LAY (u (shA A) 87 (wr (A 87) 6 ((rd (A 87) 6) + 1))) (shF F), 0, 0)) hc167 5 rfl ⟨⟨by omega, by omega⟩, trivial⟩ ?_
                  refine R_ic (t := 77) hc167 rfl rfl (fun (c119 : n ≤ (F 1) - b) => ?_) (fun (c119 : ¬ (n ≤ (F 1) - b)) => ?_)
                  · exfalso
                    omega
                  · refine R_s (P := True) (f' := (73, [some (vR 88), some (vI a), some (vI b), some (vI n), none], [vI (-6), vR 88], LAY (u (shA A) 87 (wr (A 87) 6 ((rd (A 87) 6) + 1))) (shF F), 0, 0)) hc167 2 rfl trivial ?_
                    refine R_cv hc167 rfl rfl ?_ (fun r G h => h)
                    refine R_s (P := inI 6 ∧ (0 ≤ 6 ∧ 6 < ((A 87).length : Int)) ∧ inI ((rd (A 87) 6) + 1) ∧ (0 ≤ 6 ∧ 6 < ((A 87).length : Int)) ∧ True) (f' := (12, [some (vR 88), some (vI (-6))], [vI (-6)], LAY (u (u (shA A) 87 (wr (A 87) 6 ((rd (A 87) 6) + 1))) 89 (wr (A 87) 6 ((rd (A 87) 6) + 1))) (shF F), 0, 0)) hc105 10 rfl ⟨⟨by omega, by omega⟩, ⟨by omega, by omega⟩, ⟨by omega, by omega⟩, ⟨by omega, by omega⟩, trivial⟩ ?_
                    refine R_reti hc105 rfl rfl ?_
                    refine R_s (f' := (76, [some (vR 88), some (vI a), some (vI b), some (vI n), none], [vI (-6)], LAY (u (u (shA A) 87 (wr (A 87) 6 ((rd (A 87) 6) + 1))) 89 (wr (A 87) 6 ((rd (A 87) 6) + 1))) (shF F), 0, 0)) hc167 0 rfl trivial ?_
                    refine R_reti hc167 rfl rfl ?_
                    first
                      | (exfalso; omega; done)
                      | exact ⟨rfl, (u A 87 (wr (A 87) 6 ((rd (A 87) 6) + 1))), F, rfl, rfl, REL_ref hR0 (by decide) (by decide)⟩
          · refine R_s (P := inI ((F 1) - n) ∧ True) (f' := (49, [some (vR 1), some (vI a), some (vI b), some (vI n)], [vI ((F 1) - n), vI a], LAY (shA A) (shF F), 0, 0)) hc91 5 rfl ⟨⟨by omega, by omega⟩, trivial⟩ ?_
            refine R_ic (t := 62) hc91 rfl rfl (fun (c12 : (F 1) - n < a) => ?_) (fun (c12 : ¬ ((F 1) - n < a)) => ?_)
            · refine R_s (P := True) (f' := (65, [some (vR 1), some (vI a), some (vI b), some (vI n)], [vI (-6), vR 1], LAY (shA A) (shF F), 0, 0)) hc91 2 rfl trivial ?_
              refine R_cv hc91 rfl rfl ?_ (fun r G h => h)
              refine R_s (P := True) (f' := (3, [some (vR 1), some (vI (-6))], [vI (-2), vI (-6)], LAY (shA A) (shF F), 0, 0)) hc93 2 rfl trivial ?_
              refine R_ic (t := 23) hc93 rfl rfl (fun (z : (-2) < (-6)) => absurd z (by decide)) (fun (_ : ¬ ((-2) < (-6))) => ?_)
              refine R_s (P := True) (f' := (9, [some (vR 1), some (vI (-6))], [vI (-8), vI (-6)], LAY (shA A) (shF F), 0, 0)) hc93 2 rfl trivial ?_
              refine R_ic (t := 23) hc93 rfl rfl (fun (z : (-6) < (-8)) => absurd z (by decide)) (fun (_ : ¬ ((-6) < (-8))) => ?_)
              refine R_s (P := inI 6 ∧ (0 ≤ 6 ∧ 6 < ((A 87).length : Int)) ∧ inI ((rd (A 87) 6) + 1) ∧ (0 ≤ 6 ∧ 6 < ((A 87).length : Int)) ∧ True) (f' := (24, [some (vR 1), some (vI (-6))], [vI (-6)], LAY (u (shA A) 87 (wr (A 87) 6 ((rd (A 87) 6) + 1))) (shF F), 0, 0)) hc93 10 rfl ⟨⟨by omega, by omega⟩, ⟨by omega, by omega⟩, ⟨by omega, by omega⟩, ⟨by omega, by omega⟩, trivial⟩ ?_
              refine R_reti hc93 rfl rfl ?_
              refine R_s (f' := (68, [some (vR 1), some (vI a), some (vI b), some (vI n)], [vI (-6)], LAY (u (shA A) 87 (wr (A 87) 6 ((rd (A 87) 6) + 1))) (shF F), 0, 0)) hc91 0 rfl trivial ?_
              refine R_reti hc91 rfl rfl ⟨⟨_, rfl⟩, ⟨_, _, rfl, rfl⟩, ?_⟩
              refine R_s (P := True) (f' := (5, [some (vR 88), some (vI a), some (vI b), some (vI n), none], [vI (-1), vI (F 1)], LAY (u (shA A) 87 (wr (A 87) 6 ((rd (A 87) 6) + 1))) (shF F), 0, 0)) hc167 3 rfl trivial ?_
              refine R_ic (t := 15) hc167 rfl rfl (fun (_ : ¬ F 1 = (-1)) => ?_) (fun (z : ¬ (¬ F 1 = (-1))) => absurd (show ¬ F 1 = (-1) by omega) z)
              refine R_s (P := True) (f' := (16, [some (vR 88), some (vI a), some (vI b), some (vI n), none], [vI n], LAY (u (shA A) 87 (wr (A 87) 6 ((rd (A 87) 6) + 1))) (shF F), 0, 0)) hc167 1 rfl trivial ?_
              refine R_if (t := 26) hc167 rfl rfl (fun (_ : 0 ≤ n) => ?_) (fun (z : ¬ (0 ≤ n)) => absurd (show 0 ≤ n by omega) z)
              refine R_s (P := True) (f' := (27, [some (vR 88), some (vI a), some (vI b), some (vI n), none], [vI a], LAY (u (shA A) 87 (wr (A 87) 6 ((rd (A 87) 6) + 1))) (shF F), 0, 0)) hc167 1 rfl trivial ?_
              refine R_if (t := 70) hc167 rfl rfl (fun (z : a < 0) => absurd z (by omega)) (fun (_ : ¬ (a < 0)) => ?_)
              refine R_s (P := True) (f' := (31, [some (vR 88), some (vI a), some (vI b), some (vI n), none], [vI b], LAY (u (shA A) 87 (wr (A 87) 6 ((rd (A 87) 6) + 1))) (shF F), 0, 0)) hc167 1 rfl trivial ?_
              refine R_if (t := 70) hc167 rfl rfl (fun (z : b < 0) => absurd z (by omega)) (fun (_ : ¬ (b < 0)) => ?_)
              refine R_s (P := True) (f' := (39, [some (vR 88), some (vI a), some (vI b), some (vI n), none], [vI (F 1), vI a], LAY (u (shA A) 87 (wr (A 87) 6 ((rd (A 87) 6) + 1))) (shF F), 0, 0)) hc167 3 rfl trivial ?_
              refine R_ic (t := 70) hc167 rfl rfl (fun (c119 : F 1 < a) => ?_) (fun (c119 : ¬ (F 1 < a)) => ?_)
              · refine R_s (P := True) (f' := (73, [some (vR 88), some (vI a), some (vI b), some (vI n), none], [vI (-6), vR 88], LAY (u (shA A) 87 (wr (A 87) 6 ((rd (A 87) 6) + 1))) (shF F), 0, 0)) hc167 2 rfl trivial ?_
                refine R_cv hc167 rfl rfl ?_ (fun r G h => h)
                refine R_s (P := inI 6 ∧ (0 ≤ 6 ∧ 6 < ((A 87).length : Int)) ∧ inI ((rd (A 87) 6) + 1) ∧ (0 ≤ 6 ∧ 6 < ((A 87).length : Int)) ∧ True) (f' := (12, [some (vR 88), some (vI (-6))], [vI (-6)], LAY (u (u (shA A) 87 (wr (A 87) 6 ((rd (A 87) 6) + 1))) 89 (wr (A 87) 6 ((rd (A 87) 6) + 1))) (shF F), 0, 0)) hc105 10 rfl ⟨⟨by omega, by omega⟩, ⟨by omega, by omega⟩, ⟨by omega, by omega⟩, ⟨by omega, by omega⟩, trivial⟩ ?_
                refine R_reti hc105 rfl rfl ?_
                refine R_s (f' := (76, [some (vR 88), some (vI a), some (vI b), some (vI n), none], [vI (-6)], LAY (u (u (shA A) 87 (wr (A 87) 6 ((rd (A 87) 6) + 1))) 89 (wr (A 87) 6 ((rd (A 87) 6) + 1))) (shF F), 0, 0)) hc167 0 rfl trivial ?_
                refine R_reti hc167 rfl rfl ?_
                first
                  | (exfalso; omega; done)
                  | exact ⟨rfl, (u A 87 (wr (A 87) 6 ((rd (A 87) 6) + 1))), F, rfl, rfl, REL_ref hR0 (by decide) (by decide)⟩
              · refine R_s (P := True) (f' := (47, [some (vR 88), some (vI a), some (vI b), some (vI n), none], [vI (F 1), vI b], LAY (u (shA A) 87 (wr (A 87) 6 ((rd (A 87) 6) + 1))) (shF F), 0, 0)) hc167 3 rfl trivial ?_
                refine R_ic (t := 70) hc167 rfl rfl (fun (c120 : F 1 < b) => ?_) (fun (c120 : ¬ (F 1 < b)) => ?_)
                · refine R_s (P := True) (f' := (73, [some (vR 88), some (vI a), some (vI b), some (vI n), none], [vI (-6), vR 88], LAY (u (shA A) 87 (wr (A 87) 6 ((rd (A 87) 6) + 1))) (shF F), 0, 0)) hc167 2 rfl trivial ?_
                  refine R_cv hc167 rfl rfl ?_ (fun r G h => h)
                  refine R_s (P := inI 6 ∧ (0 ≤ 6 ∧ 6 < ((A 87).length : Int)) ∧ inI ((rd (A 87) 6) + 1) ∧ (0 ≤ 6 ∧ 6 < ((A 87).length : Int)) ∧ True) (f' := (12, [some (vR 88), some (vI (-6))], [vI (-6)], LAY (u (u (shA A) 87 (wr (A 87) 6 ((rd (A 87) 6) + 1))) 89 (wr (A 87) 6 ((rd (A 87) 6) + 1))) (shF F), 0, 0)) hc105 10 rfl ⟨⟨by omega, by omega⟩, ⟨by omega, by omega⟩, ⟨by omega, by omega⟩, ⟨by omega, by omega⟩, trivial⟩ ?_
                  refine R_reti hc105 rfl rfl ?_
                  refine R_s (f' := (76, [some (vR 88), some (vI a), some (vI b), some (vI n), none], [vI (-6)], LAY (u (u (shA A) 87 (wr (A 87) 6 ((rd (A 87) 6) + 1))) 89 (wr (A 87) 6 ((rd (A 87) 6) + 1))) (shF F), 0, 0)) hc167 0 rfl trivial ?_
                  refine R_reti hc167 rfl rfl ?_
                  first
                    | (exfalso; omega; done)
                    | exact ⟨rfl, (u A 87 (wr (A 87) 6 ((rd (A 87) 6) + 1))), F, rfl, rfl, REL_ref hR0 (by decide) (by decide)⟩
                · refine R_s (P := inI ((F 1) - a) ∧ True) (f' := (57, [some (vR 88), some (vI a), some (vI b), some (vI n), none], [vI ((F 1) - a), vI n], LAY (u (shA A) 87 (wr (A 87) 6 ((rd (A 87) 6) + 1))) (shF F), 0, 0)) hc167 5 rfl ⟨⟨by omega, by omega⟩, trivial⟩ ?_
                  refine R_ic (t := 70) hc167 rfl rfl (fun (_ : (F 1) - a < n) => ?_) (fun (z : ¬ ((F 1) - a < n)) => absurd (show (F 1) - a < n by omega) z)
                  refine R_s (P := True) (f' := (73, [some (vR 88), some (vI a), some (vI b), some (vI n), none], [vI (-6), vR 88], LAY (u (shA A) 87 (wr (A 87) 6 ((rd (A 87) 6) + 1))) (shF F), 0, 0)) hc167 2 rfl trivial ?_
                  refine R_cv hc167 rfl rfl ?_ (fun r G h => h)
                  refine R_s (P := inI 6 ∧ (0 ≤ 6 ∧ 6 < ((A 87).length : Int)) ∧ inI ((rd (A 87) 6) + 1) ∧ (0 ≤ 6 ∧ 6 < ((A 87).length : Int)) ∧ True) (f' := (12, [some (vR 88), some (vI (-6))], [vI (-6)], LAY (u (u (shA A) 87 (wr (A 87) 6 ((rd (A 87) 6) + 1))) 89 (wr (A 87) 6 ((rd (A 87) 6) + 1))) (shF F), 0, 0)) hc105 10 rfl ⟨⟨by omega, by omega⟩, ⟨by omega, by omega⟩, ⟨by omega, by omega⟩, ⟨by omega, by omega⟩, trivial⟩ ?_
                  refine R_reti hc105 rfl rfl ?_
                  refine R_s (f' := (76, [some (vR 88), some (vI a), some (vI b), some (vI n), none], [vI (-6)], LAY (u (u (shA A) 87 (wr (A 87) 6 ((rd (A 87) 6) + 1))) 89 (wr (A 87) 6 ((rd (A 87) 6) + 1))) (shF F), 0, 0)) hc167 0 rfl trivial ?_
                  refine R_reti hc167 rfl rfl ?_
                  first
                    | (exfalso; omega; done)
                    | exact ⟨rfl, (u A 87 (wr (A 87) 6 ((rd (A 87) 6) + 1))), F, rfl, rfl, REL_ref hR0 (by decide) (by decide)⟩
            · refine R_s (P := inI ((F 1) - n) ∧ True) (f' := (59, [some (vR 1), some (vI a), some (vI b), some (vI n)], [vI ((F 1) - n), vI b], LAY (shA A) (shF F), 0, 0)) hc91 5 rfl ⟨⟨by omega, by omega⟩, trivial⟩ ?_
              refine R_ic (t := 69) hc91 rfl rfl (fun (c15 : b ≤ (F 1) - n) => ?_) (fun (c15 : ¬ (b ≤ (F 1) - n)) => ?_)
              · refine R_s (P := (0 ≤ n ∧ 0 ≤ a ∧ 0 ≤ b ∧ a + n ≤ ((A 86).length : Int) ∧ b + n ≤ ((A 86).length : Int)) ∧ True) (f' := (84, [some (vR 1), some (vI a), some (vI b), some (vI n)], [vI n], LAY (u (shA A) 86 (cpI (A 86) (A 86) a b n)) (shF F), 0, 0)) hc91 9 rfl ⟨⟨by omega, by omega, by omega, by omega, by omega⟩, trivial⟩ ?_
                refine R_reti hc91 rfl rfl ⟨⟨_, rfl⟩, ⟨_, _, rfl, rfl⟩, ?_⟩
                refine R_s (P := True) (f' := (5, [some (vR 88), some (vI a), some (vI b), some (vI n), none], [vI (-1), vI (F 1)], LAY (u (shA A) 86 (cpI (A 86) (A 86) a b n)) (shF F), 0, 0)) hc167 3 rfl trivial ?_
                refine R_ic (t := 15) hc167 rfl rfl (fun (_ : ¬ F 1 = (-1)) => ?_) (fun (z : ¬ (¬ F 1 = (-1))) => absurd (show ¬ F 1 = (-1) by omega) z)
                refine R_s (P := True) (f' := (16, [some (vR 88), some (vI a), some (vI b), some (vI n), none], [vI n], LAY (u (shA A) 86 (cpI (A 86) (A 86) a b n)) (shF F), 0, 0)) hc167 1 rfl trivial ?_
                refine R_if (t := 26) hc167 rfl rfl (fun (_ : 0 ≤ n) => ?_) (fun (z : ¬ (0 ≤ n)) => absurd (show 0 ≤ n by omega) z)
                refine R_s (P := True) (f' := (27, [some (vR 88), some (vI a), some (vI b), some (vI n), none], [vI a], LAY (u (shA A) 86 (cpI (A 86) (A 86) a b n)) (shF F), 0, 0)) hc167 1 rfl trivial ?_
                refine R_if (t := 70) hc167 rfl rfl (fun (z : a < 0) => absurd z (by omega)) (fun (_ : ¬ (a < 0)) => ?_)
                refine R_s (P := True) (f' := (31, [some (vR 88), some (vI a), some (vI b), some (vI n), none], [vI b], LAY (u (shA A) 86 (cpI (A 86) (A 86) a b n)) (shF F), 0, 0)) hc167 1 rfl trivial ?_
                refine R_if (t := 70) hc167 rfl rfl (fun (z : b < 0) => absurd z (by omega)) (fun (_ : ¬ (b < 0)) => ?_)
                refine R_s (P := True) (f' := (39, [some (vR 88), some (vI a), some (vI b), some (vI n), none], [vI (F 1), vI a], LAY (u (shA A) 86 (cpI (A 86) (A 86) a b n)) (shF F), 0, 0)) hc167 3 rfl trivial ?_
                refine R_ic (t := 70) hc167 rfl rfl (fun (c120 : F 1 < a) => ?_) (fun (c120 : ¬ (F 1 < a)) => ?_)
                · refine R_s (P := True) (f' := (73, [some (vR 88), some (vI a), some (vI b), some (vI n), none], [vI (-6), vR 88], LAY (u (shA A) 86 (cpI (A 86) (A 86) a b n)) (shF F), 0, 0)) hc167 2 rfl trivial ?_
                  refine R_cv hc167 rfl rfl ?_ (fun r G h => h)
                  refine R_s (P := inI 6 ∧ (0 ≤ 6 ∧ 6 < ((A 87).length : Int)) ∧ inI ((rd (A 87) 6) + 1) ∧ (0 ≤ 6 ∧ 6 < ((A 87).length : Int)) ∧ True) (f' := (12, [some (vR 88), some (vI (-6))], [vI (-6)], LAY (u (u (shA A) 86 (cpI (A 86) (A 86) a b n)) 89 (wr (A 87) 6 ((rd (A 87) 6) + 1))) (shF F), 0, 0)) hc105 10 rfl ⟨⟨by omega, by omega⟩, ⟨by omega, by omega⟩, ⟨by omega, by omega⟩, ⟨by omega, by omega⟩, trivial⟩ ?_
                  refine R_reti hc105 rfl rfl ?_
                  refine R_s (f' := (76, [some (vR 88), some (vI a), some (vI b), some (vI n), none], [vI (-6)], LAY (u (u (shA A) 86 (cpI (A 86) (A 86) a b n)) 89 (wr (A 87) 6 ((rd (A 87) 6) + 1))) (shF F), 0, 0)) hc167 0 rfl trivial ?_
                  refine R_reti hc167 rfl rfl ?_
                  first
                    | (exfalso; omega; done)
                    | exact ⟨(by rw [show (-6) = n by omega]), (u A 86 (cpI (A 86) (A 86) a b n)), F, rfl, rfl, ⟨(LENS_u hL (by show (cpI (A 86) (A 86) a b n).length = (A 86).length; unfold cpI; rw [List.length_map, List.length_range])), hR0.2.1, hR0.2.2.1, hR0.2.2.2.1, hR0.2.2.2.2.1, hR0.2.2.2.2.2.1, hR0.2.2.2.2.2.2.1, hR0.2.2.2.2.2.2.2.1, hR0.2.2.2.2.2.2.2.2.1, (REFU_c hR0.2.2.2.2.2.2.2.2.2)⟩⟩
                · refine R_s (P := True) (f' := (47, [some (vR 88), some (vI a), some (vI b), some (vI n), none], [vI (F 1), vI b], LAY (u (shA A) 86 (cpI (A 86) (A 86) a b n)) (shF F), 0, 0)) hc167 3 rfl trivial ?_
                  refine R_ic (t := 70) hc167 rfl rfl (fun (c121 : F 1 < b) => ?_) (fun (c121 : ¬ (F 1 < b)) => ?_)
                  · refine R_s (P := True) (f' := (73, [some (vR 88), some (vI a), some (vI b), some (vI n), none], [vI (-6), vR 88], LAY (u (shA A) 86 (cpI (A 86) (A 86) a b n)) (shF F), 0, 0)) hc167 2 rfl trivial ?_
                    refine R_cv hc167 rfl rfl ?_ (fun r G h => h)
                    refine R_s (P := inI 6 ∧ (0 ≤ 6 ∧ 6 < ((A 87).length : Int)) ∧ inI ((rd (A 87) 6) + 1) ∧ (0 ≤ 6 ∧ 6 < ((A 87).length : Int)) ∧ True) (f' := (12, [some (vR 88), some (vI (-6))], [vI (-6)], LAY (u (u (shA A) 86 (cpI (A 86) (A 86) a b n)) 89 (wr (A 87) 6 ((rd (A 87) 6) + 1))) (shF F), 0, 0)) hc105 10 rfl ⟨⟨by omega, by omega⟩, ⟨by omega, by omega⟩, ⟨by omega, by omega⟩, ⟨by omega, by omega⟩, trivial⟩ ?_
                    refine R_reti hc105 rfl rfl ?_
                    refine R_s (f' := (76, [some (vR 88), some (vI a), some (vI b), some (vI n), none], [vI (-6)], LAY (u (u (shA A) 86 (cpI (A 86) (A 86) a b n)) 89 (wr (A 87) 6 ((rd (A 87) 6) + 1))) (shF F), 0, 0)) hc167 0 rfl trivial ?_
                    refine R_reti hc167 rfl rfl ?_
                    first
                      | (exfalso; omega; done)
                      | exact ⟨(by rw [show (-6) = n by omega]), (u A 86 (cpI (A 86) (A 86) a b n)), F, rfl, rfl, ⟨(LENS_u hL (by show (cpI (A 86) (A 86) a b n).length = (A 86).length; unfold cpI; rw [List.length_map, List.length_range])), hR0.2.1, hR0.2.2.1, hR0.2.2.2.1, hR0.2.2.2.2.1, hR0.2.2.2.2.2.1, hR0.2.2.2.2.2.2.1, hR0.2.2.2.2.2.2.2.1, hR0.2.2.2.2.2.2.2.2.1, (REFU_c hR0.2.2.2.2.2.2.2.2.2)⟩⟩
                  · refine R_s (P := inI ((F 1) - a) ∧ True) (f' := (57, [some (vR 88), some (vI a), some (vI b), some (vI n), none], [vI ((F 1) - a), vI n], LAY (u (shA A) 86 (cpI (A 86) (A 86) a b n)) (shF F), 0, 0)) hc167 5 rfl ⟨⟨by omega, by omega⟩, trivial⟩ ?_
                    refine R_ic (t := 70) hc167 rfl rfl (fun (z : (F 1) - a < n) => absurd z (by omega)) (fun (_ : ¬ ((F 1) - a < n)) => ?_)
                    refine R_s (P := inI ((F 1) - b) ∧ True) (f' := (67, [some (vR 88), some (vI a), some (vI b), some (vI n), none], [vI ((F 1) - b), vI n], LAY (u (shA A) 86 (cpI (A 86) (A 86) a b n)) (shF F), 0, 0)) hc167 5 rfl ⟨⟨by omega, by omega⟩, trivial⟩ ?_
                    refine R_ic (t := 77) hc167 rfl rfl (fun (_ : n ≤ (F 1) - b) => ?_) (fun (z : ¬ (n ≤ (F 1) - b)) => absurd (show n ≤ (F 1) - b by omega) z)
                    refine copy_M (A := (u (shA A) 86 (cpI (A 86) (A 86) a b n))) (F := (shF F)) (hL 86 (by decide)) (hL 113 (by decide)) ⟨by omega, by omega⟩ ⟨by omega, by omega⟩ (by omega) (fun x l113 l112 k112 k113 v112 => ?_)
                    have e12 : l112 = cpI (A 86) (A 86) a b n := list_ext (by unfold cpI; rw [List.length_map, List.length_range, k112]; exact (hL 86 (by decide)).symm) (fun q hq => by
                      rw [v112 q (by omega), rd_cpI (by rw [show (A 86).length = 30 from hL 86 (by decide)]; omega) (by omega) (by omega) (by omega)]
                      rfl)
                    rw [e12]
                    refine R_s (P := True) (f' := (140, [some (vR 88), some (vI a), some (vI b), some (vI n), some (vI x)], [vI n], LAY (u (u (u (shA A) 86 (cpI (A 86) (A 86) a b n)) 113 l113) 112 (cpI (A 86) (A 86) a b n)) (shF F), 0, 0)) hc167 1 rfl trivial ?_
                    refine R_reti hc167 rfl rfl ?_
                    first
                      | (exfalso; omega; done)
                      | exact ⟨rfl, (u (u A 86 (cpI (A 86) (A 86) a b n)) 113 l113), F, rfl, rfl, ⟨(LENS_u (LENS_u hL (by show (cpI (A 86) (A 86) a b n).length = (A 86).length; unfold cpI; rw [List.length_map, List.length_range])) (by show (l113).length = (A 113).length; rw [k113, hL 113 (by decide)]; rfl)), hR0.2.1, hR0.2.2.1, hR0.2.2.2.1, hR0.2.2.2.2.1, hR0.2.2.2.2.2.1, hR0.2.2.2.2.2.2.1, hR0.2.2.2.2.2.2.2.1, hR0.2.2.2.2.2.2.2.2.1, (REFU_c hR0.2.2.2.2.2.2.2.2.2)⟩⟩
              · refine R_s (P := True) (f' := (65, [some (vR 1), some (vI a), some (vI b), some (vI n)], [vI (-6), vR 1], LAY (shA A) (shF F), 0, 0)) hc91 2 rfl trivial ?_
                refine R_cv hc91 rfl rfl ?_ (fun r G h => h)
                refine R_s (P := True) (f' := (3, [some (vR 1), some (vI (-6))], [vI (-2), vI (-6)], LAY (shA A) (shF F), 0, 0)) hc93 2 rfl trivial ?_
                refine R_ic (t := 23) hc93 rfl rfl (fun (z : (-2) < (-6)) => absurd z (by decide)) (fun (_ : ¬ ((-2) < (-6))) => ?_)
                refine R_s (P := True) (f' := (9, [some (vR 1), some (vI (-6))], [vI (-8), vI (-6)], LAY (shA A) (shF F), 0, 0)) hc93 2 rfl trivial ?_
                refine R_ic (t := 23) hc93 rfl rfl (fun (z : (-6) < (-8)) => absurd z (by decide)) (fun (_ : ¬ ((-6) < (-8))) => ?_)
                refine R_s (P := inI 6 ∧ (0 ≤ 6 ∧ 6 < ((A 87).length : Int)) ∧ inI ((rd (A 87) 6) + 1) ∧ (0 ≤ 6 ∧ 6 < ((A 87).length : Int)) ∧ True) (f' := (24, [some (vR 1), some (vI (-6))], [vI (-6)], LAY (u (shA A) 87 (wr (A 87) 6 ((rd (A 87) 6) + 1))) (shF F), 0, 0)) hc93 10 rfl ⟨⟨by omega, by omega⟩, ⟨by omega, by omega⟩, ⟨by omega, by omega⟩, ⟨by omega, by omega⟩, trivial⟩ ?_
                refine R_reti hc93 rfl rfl ?_
                refine R_s (f' := (68, [some (vR 1), some (vI a), some (vI b), some (vI n)], [vI (-6)], LAY (u (shA A) 87 (wr (A 87) 6 ((rd (A 87) 6) + 1))) (shF F), 0, 0)) hc91 0 rfl trivial ?_
                refine R_reti hc91 rfl rfl ⟨⟨_, rfl⟩, ⟨_, _, rfl, rfl⟩, ?_⟩
                refine R_s (P := True) (f' := (5, [some (vR 88), some (vI a), some (vI b), some (vI n), none], [vI (-1), vI (F 1)], LAY (u (shA A) 87 (wr (A 87) 6 ((rd (A 87) 6) + 1))) (shF F), 0, 0)) hc167 3 rfl trivial ?_
                refine R_ic (t := 15) hc167 rfl rfl (fun (_ : ¬ F 1 = (-1)) => ?_) (fun (z : ¬ (¬ F 1 = (-1))) => absurd (show ¬ F 1 = (-1) by omega) z)
                refine R_s (P := True) (f' := (16, [some (vR 88), some (vI a), some (vI b), some (vI n), none], [vI n], LAY (u (shA A) 87 (wr (A 87) 6 ((rd (A 87) 6) + 1))) (shF F), 0, 0)) hc167 1 rfl trivial ?_
                refine R_if (t := 26) hc167 rfl rfl (fun (_ : 0 ≤ n) => ?_) (fun (z : ¬ (0 ≤ n)) => absurd (show 0 ≤ n by omega) z)
                refine R_s (P := True) (f' := (27, [some (vR 88), some (vI a), some (vI b), some (vI n), none], [vI a], LAY (u (shA A) 87 (wr (A 87) 6 ((rd (A 87) 6) + 1))) (shF F), 0, 0)) hc167 1 rfl trivial ?_
                refine R_if (t := 70) hc167 rfl rfl (fun (z : a < 0) => absurd z (by omega)) (fun (_ : ¬ (a < 0)) => ?_)
                refine R_s (P := True) (f' := (31, [some (vR 88), some (vI a), some (vI b), some (vI n), none], [vI b], LAY (u (shA A) 87 (wr (A 87) 6 ((rd (A 87) 6) + 1))) (shF F), 0, 0)) hc167 1 rfl trivial ?_
                refine R_if (t := 70) hc167 rfl rfl (fun (z : b < 0) => absurd z (by omega)) (fun (_ : ¬ (b < 0)) => ?_)
                refine R_s (P := True) (f' := (39, [some (vR 88), some (vI a), some (vI b), some (vI n), none], [vI (F 1), vI a], LAY (u (shA A) 87 (wr (A 87) 6 ((rd (A 87) 6) + 1))) (shF F), 0, 0)) hc167 3 rfl trivial ?_
                refine R_ic (t := 70) hc167 rfl rfl (fun (c122 : F 1 < a) => ?_) (fun (c122 : ¬ (F 1 < a)) => ?_)
                · refine R_s (P := True) (f' := (73, [some (vR 88), some (vI a), some (vI b), some (vI n), none], [vI (-6), vR 88], LAY (u (shA A) 87 (wr (A 87) 6 ((rd (A 87) 6) + 1))) (shF F), 0, 0)) hc167 2 rfl trivial ?_
                  refine R_cv hc167 rfl rfl ?_ (fun r G h => h)
                  refine R_s (P := inI 6 ∧ (0 ≤ 6 ∧ 6 < ((A 87).length : Int)) ∧ inI ((rd (A 87) 6) + 1) ∧ (0 ≤ 6 ∧ 6 < ((A 87).length : Int)) ∧ True) (f' := (12, [some (vR 88), some (vI (-6))], [vI (-6)], LAY (u (u (shA A) 87 (wr (A 87) 6 ((rd (A 87) 6) + 1))) 89 (wr (A 87) 6 ((rd (A 87) 6) + 1))) (shF F), 0, 0)) hc105 10 rfl ⟨⟨by omega, by omega⟩, ⟨by omega, by omega⟩, ⟨by omega, by omega⟩, ⟨by omega, by omega⟩, trivial⟩ ?_
                  refine R_reti hc105 rfl rfl ?_
                  refine R_s (f' := (76, [some (vR 88), some (vI a), some (vI b), some (vI n), none], [vI (-6)], LAY (u (u (shA A) 87 (wr (A 87) 6 ((rd (A 87) 6) + 1))) 89 (wr (A 87) 6 ((rd (A 87) 6) + 1))) (shF F), 0, 0)) hc167 0 rfl trivial ?_
                  refine R_reti hc167 rfl rfl ?_
                  first
                    | (exfalso; omega; done)
                    | exact ⟨rfl, (u A 87 (wr (A 87) 6 ((rd (A 87) 6) + 1))), F, rfl, rfl, REL_ref hR0 (by decide) (by decide)⟩
                · refine R_s (P := True) (f' := (47, [some (vR 88), some (vI a), some (vI b), some (vI n), none], [vI (F 1), vI b], LAY (u (shA A) 87 (wr (A 87) 6 ((rd (A 87) 6) + 1))) (shF F), 0, 0)) hc167 3 rfl trivial ?_
                  refine R_ic (t := 70) hc167 rfl rfl (fun (c123 : F 1 < b) => ?_) (fun (c123 : ¬ (F 1 < b)) => ?_)
                  · refine R_s (P := True) (f' := (73, [some (vR 88), some (vI a), some (vI b), some (vI n), none], [vI (-6), vR 88], LAY (u (shA A) 87 (wr (A 87) 6 ((rd (A 87) 6) + 1))) (shF F), 0, 0)) hc167 2 rfl trivial ?_
                    refine R_cv hc167 rfl rfl ?_ (fun r G h => h)
                    refine R_s (P := inI 6 ∧ (0 ≤ 6 ∧ 6 < ((A 87).length : Int)) ∧ inI ((rd (A 87) 6) + 1) ∧ (0 ≤ 6 ∧ 6 < ((A 87).length : Int)) ∧ True) (f' := (12, [some (vR 88), some (vI (-6))], [vI (-6)], LAY (u (u (shA A) 87 (wr (A 87) 6 ((rd (A 87) 6) + 1))) 89 (wr (A 87) 6 ((rd (A 87) 6) + 1))) (shF F), 0, 0)) hc105 10 rfl ⟨⟨by omega, by omega⟩, ⟨by omega, by omega⟩, ⟨by omega, by omega⟩, ⟨by omega, by omega⟩, trivial⟩ ?_
                    refine R_reti hc105 rfl rfl ?_
                    refine R_s (f' := (76, [some (vR 88), some (vI a), some (vI b), some (vI n), none], [vI (-6)], LAY (u (u (shA A) 87 (wr (A 87) 6 ((rd (A 87) 6) + 1))) 89 (wr (A 87) 6 ((rd (A 87) 6) + 1))) (shF F), 0, 0)) hc167 0 rfl trivial ?_
                    refine R_reti hc167 rfl rfl ?_
                    first
                      | (exfalso; omega; done)
                      | exact ⟨rfl, (u A 87 (wr (A 87) 6 ((rd (A 87) 6) + 1))), F, rfl, rfl, REL_ref hR0 (by decide) (by decide)⟩
                  · refine R_s (P := inI ((F 1) - a) ∧ True) (f' := (57, [some (vR 88), some (vI a), some (vI b), some (vI n), none], [vI ((F 1) - a), vI n], LAY (u (shA A) 87 (wr (A 87) 6 ((rd (A 87) 6) + 1))) (shF F), 0, 0)) hc167 5 rfl ⟨⟨by omega, by omega⟩, trivial⟩ ?_
                    refine R_ic (t := 70) hc167 rfl rfl (fun (z : (F 1) - a < n) => absurd z (by omega)) (fun (_ : ¬ ((F 1) - a < n)) => ?_)
                    refine R_s (P := inI ((F 1) - b) ∧ True) (f' := (67, [some (vR 88), some (vI a), some (vI b), some (vI n), none], [vI ((F 1) - b), vI n], LAY (u (shA A) 87 (wr (A 87) 6 ((rd (A 87) 6) + 1))) (shF F), 0, 0)) hc167 5 rfl ⟨⟨by omega, by omega⟩, trivial⟩ ?_
                    refine R_ic (t := 77) hc167 rfl rfl (fun (z : n ≤ (F 1) - b) => absurd z (by omega)) (fun (_ : ¬ (n ≤ (F 1) - b)) => ?_)
                    refine R_s (P := True) (f' := (73, [some (vR 88), some (vI a), some (vI b), some (vI n), none], [vI (-6), vR 88], LAY (u (shA A) 87 (wr (A 87) 6 ((rd (A 87) 6) + 1))) (shF F), 0, 0)) hc167 2 rfl trivial ?_
                    refine R_cv hc167 rfl rfl ?_ (fun r G h => h)
                    refine R_s (P := inI 6 ∧ (0 ≤ 6 ∧ 6 < ((A 87).length : Int)) ∧ inI ((rd (A 87) 6) + 1) ∧ (0 ≤ 6 ∧ 6 < ((A 87).length : Int)) ∧ True) (f' := (12, [some (vR 88), some (vI (-6))], [vI (-6)], LAY (u (u (shA A) 87 (wr (A 87) 6 ((rd (A 87) 6) + 1))) 89 (wr (A 87) 6 ((rd (A 87) 6) + 1))) (shF F), 0, 0)) hc105 10 rfl ⟨⟨by omega, by omega⟩, ⟨by omega, by omega⟩, ⟨by omega, by omega⟩, ⟨by omega, by omega⟩, trivial⟩ ?_
                    refine R_reti hc105 rfl rfl ?_
                    refine R_s (f' := (76, [some (vR 88), some (vI a), some (vI b), some (vI n), none], [vI (-6)], LAY (u (u (shA A) 87 (wr (A 87) 6 ((rd (A 87) 6) + 1))) 89 (wr (A 87) 6 ((rd (A 87) 6) + 1))) (shF F), 0, 0)) hc167 0 rfl trivial ?_
                    refine R_reti hc167 rfl rfl ?_
                    first
                      | (exfalso; omega; done)
                      | exact ⟨rfl, (u A 87 (wr (A 87) 6 ((rd (A 87) 6) + 1))), F, rfl, rfl, REL_ref hR0 (by decide) (by decide)⟩
    · refine R_s (P := True) (f' := (22, [some (vR 1), some (vI a), some (vI b), some (vI n)], [vI (-4), vR 1], LAY (shA A) (shF F), 0, 0)) hc91 2 rfl trivial ?_
      refine R_cv hc91 rfl rfl ?_ (fun r G h => h)
      refine R_s (P := True) (f' := (3, [some (vR 1), some (vI (-4))], [vI (-2), vI (-4)], LAY (shA A) (shF F), 0, 0)) hc93 2 rfl trivial ?_
      refine R_ic (t := 23) hc93 rfl rfl (fun (z : (-2) < (-4)) => absurd z (by decide)) (fun (_ : ¬ ((-2) < (-4))) => ?_)
      refine R_s (P := True) (f' := (9, [some (vR 1), some (vI (-4))], [vI (-8), vI (-4)], LAY (shA A) (shF F), 0, 0)) hc93 2 rfl trivial ?_
      refine R_ic (t := 23) hc93 rfl rfl (fun (z : (-4) < (-8)) => absurd z (by decide)) (fun (_ : ¬ ((-4) < (-8))) => ?_)
      refine R_s (P := inI 4 ∧ (0 ≤ 4 ∧ 4 < ((A 87).length : Int)) ∧ inI ((rd (A 87) 4) + 1) ∧ (0 ≤ 4 ∧ 4 < ((A 87).length : Int)) ∧ True) (f' := (24, [some (vR 1), some (vI (-4))], [vI (-4)], LAY (u (shA A) 87 (wr (A 87) 4 ((rd (A 87) 4) + 1))) (shF F), 0, 0)) hc93 10 rfl ⟨⟨by omega, by omega⟩, ⟨by omega, by omega⟩, ⟨by omega, by omega⟩, ⟨by omega, by omega⟩, trivial⟩ ?_
      refine R_reti hc93 rfl rfl ?_
      refine R_s (f' := (25, [some (vR 1), some (vI a), some (vI b), some (vI n)], [vI (-4)], LAY (u (shA A) 87 (wr (A 87) 4 ((rd (A 87) 4) + 1))) (shF F), 0, 0)) hc91 0 rfl trivial ?_
      refine R_reti hc91 rfl rfl ⟨⟨_, rfl⟩, ⟨_, _, rfl, rfl⟩, ?_⟩
      refine R_s (P := True) (f' := (5, [some (vR 88), some (vI a), some (vI b), some (vI n), none], [vI (-1), vI (F 1)], LAY (u (shA A) 87 (wr (A 87) 4 ((rd (A 87) 4) + 1))) (shF F), 0, 0)) hc167 3 rfl trivial ?_
      refine R_ic (t := 15) hc167 rfl rfl (fun (_ : ¬ F 1 = (-1)) => ?_) (fun (z : ¬ (¬ F 1 = (-1))) => absurd (show ¬ F 1 = (-1) by omega) z)
      refine R_s (P := True) (f' := (16, [some (vR 88), some (vI a), some (vI b), some (vI n), none], [vI n], LAY (u (shA A) 87 (wr (A 87) 4 ((rd (A 87) 4) + 1))) (shF F), 0, 0)) hc167 1 rfl trivial ?_
      refine R_if (t := 26) hc167 rfl rfl (fun (z : 0 ≤ n) => absurd z (by omega)) (fun (_ : ¬ (0 ≤ n)) => ?_)
      refine R_s (P := True) (f' := (22, [some (vR 88), some (vI a), some (vI b), some (vI n), none], [vI (-4), vR 88], LAY (u (shA A) 87 (wr (A 87) 4 ((rd (A 87) 4) + 1))) (shF F), 0, 0)) hc167 2 rfl trivial ?_
      refine R_cv hc167 rfl rfl ?_ (fun r G h => h)
      refine R_s (P := inI 4 ∧ (0 ≤ 4 ∧ 4 < ((A 87).length : Int)) ∧ inI ((rd (A 87) 4) + 1) ∧ (0 ≤ 4 ∧ 4 < ((A 87).length : Int)) ∧ True) (f' := (12, [some (vR 88), some (vI (-4))], [vI (-4)], LAY (u (u (shA A) 87 (wr (A 87) 4 ((rd (A 87) 4) + 1))) 89 (wr (A 87) 4 ((rd (A 87) 4) + 1))) (shF F), 0, 0)) hc105 10 rfl ⟨⟨by omega, by omega⟩, ⟨by omega, by omega⟩, ⟨by omega, by omega⟩, ⟨by omega, by omega⟩, trivial⟩ ?_
      refine R_reti hc105 rfl rfl ?_
      refine R_s (f' := (25, [some (vR 88), some (vI a), some (vI b), some (vI n), none], [vI (-4)], LAY (u (u (shA A) 87 (wr (A 87) 4 ((rd (A 87) 4) + 1))) 89 (wr (A 87) 4 ((rd (A 87) 4) + 1))) (shF F), 0, 0)) hc167 0 rfl trivial ?_
      refine R_reti hc167 rfl rfl ?_
      first
        | (exfalso; omega; done)
        | exact ⟨rfl, (u A 87 (wr (A 87) 4 ((rd (A 87) 4) + 1))), F, rfl, rfl, REL_ref hR0 (by decide) (by decide)⟩
  · refine R_s (P := True) (f' := (11, [some (vR 1), some (vI a), some (vI b), some (vI n)], [vI (-2), vR 1], LAY (shA A) (shF F), 0, 0)) hc91 2 rfl trivial ?_
    refine R_cv hc91 rfl rfl ?_ (fun r G h => h)
    refine R_s (P := True) (f' := (3, [some (vR 1), some (vI (-2))], [vI (-2), vI (-2)], LAY (shA A) (shF F), 0, 0)) hc93 2 rfl trivial ?_
    refine R_ic (t := 23) hc93 rfl rfl (fun (z : (-2) < (-2)) => absurd z (by decide)) (fun (_ : ¬ ((-2) < (-2))) => ?_)
    refine R_s (P := True) (f' := (9, [some (vR 1), some (vI (-2))], [vI (-8), vI (-2)], LAY (shA A) (shF F), 0, 0)) hc93 2 rfl trivial ?_
    refine R_ic (t := 23) hc93 rfl rfl (fun (z : (-2) < (-8)) => absurd z (by decide)) (fun (_ : ¬ ((-2) < (-8))) => ?_)
    refine R_s (P := inI 2 ∧ (0 ≤ 2 ∧ 2 < ((A 87).length : Int)) ∧ inI ((rd (A 87) 2) + 1) ∧ (0 ≤ 2 ∧ 2 < ((A 87).length : Int)) ∧ True) (f' := (24, [some (vR 1), some (vI (-2))], [vI (-2)], LAY (u (shA A) 87 (wr (A 87) 2 ((rd (A 87) 2) + 1))) (shF F), 0, 0)) hc93 10 rfl ⟨⟨by omega, by omega⟩, ⟨by omega, by omega⟩, ⟨by omega, by omega⟩, ⟨by omega, by omega⟩, trivial⟩ ?_
    refine R_reti hc93 rfl rfl ?_
    refine R_s (f' := (14, [some (vR 1), some (vI a), some (vI b), some (vI n)], [vI (-2)], LAY (u (shA A) 87 (wr (A 87) 2 ((rd (A 87) 2) + 1))) (shF F), 0, 0)) hc91 0 rfl trivial ?_
    refine R_reti hc91 rfl rfl ⟨⟨_, rfl⟩, ⟨_, _, rfl, rfl⟩, ?_⟩
    refine R_s (P := True) (f' := (5, [some (vR 88), some (vI a), some (vI b), some (vI n), none], [vI (-1), vI (F 1)], LAY (u (shA A) 87 (wr (A 87) 2 ((rd (A 87) 2) + 1))) (shF F), 0, 0)) hc167 3 rfl trivial ?_
    refine R_ic (t := 15) hc167 rfl rfl (fun (z : ¬ F 1 = (-1)) => absurd z (by omega)) (fun (_ : ¬ (¬ F 1 = (-1))) => ?_)
    refine R_s (P := True) (f' := (11, [some (vR 88), some (vI a), some (vI b), some (vI n), none], [vI (-2), vR 88], LAY (u (shA A) 87 (wr (A 87) 2 ((rd (A 87) 2) + 1))) (shF F), 0, 0)) hc167 2 rfl trivial ?_
    refine R_cv hc167 rfl rfl ?_ (fun r G h => h)
    refine R_s (P := inI 2 ∧ (0 ≤ 2 ∧ 2 < ((A 87).length : Int)) ∧ inI ((rd (A 87) 2) + 1) ∧ (0 ≤ 2 ∧ 2 < ((A 87).length : Int)) ∧ True) (f' := (12, [some (vR 88), some (vI (-2))], [vI (-2)], LAY (u (u (shA A) 87 (wr (A 87) 2 ((rd (A 87) 2) + 1))) 89 (wr (A 87) 2 ((rd (A 87) 2) + 1))) (shF F), 0, 0)) hc105 10 rfl ⟨⟨by omega, by omega⟩, ⟨by omega, by omega⟩, ⟨by omega, by omega⟩, ⟨by omega, by omega⟩, trivial⟩ ?_
    refine R_reti hc105 rfl rfl ?_
    refine R_s (f' := (14, [some (vR 88), some (vI a), some (vI b), some (vI n), none], [vI (-2)], LAY (u (u (shA A) 87 (wr (A 87) 2 ((rd (A 87) 2) + 1))) 89 (wr (A 87) 2 ((rd (A 87) 2) + 1))) (shF F), 0, 0)) hc167 0 rfl trivial ?_
    refine R_reti hc167 rfl rfl ?_
    first
      | (exfalso; omega; done)
      | exact ⟨rfl, (u A 87 (wr (A 87) 2 ((rd (A 87) 2) + 1))), F, rfl, rfl, REL_ref hR0 (by decide) (by decide)⟩

set_option maxHeartbeats 8000000 in
theorem op_unknown {c : Int} {A : Nat → List Int} {F : Nat → Int} (hR : REL c A F) (hc : c < 512) (p q : Int) (i_p : inI p) (i_q : inI q) : R 62 (0, L0 62 [vR 1, vI p, vI q], [], LAY (shA A) (shF F), 0, 0) (fun r G => (∃ x, r = some (vI x)) ∧ (∃ (A1 : Nat → List Int) (F1 : Nat → Int), G = LAY A1 F1 ∧ A1 0 = A 0) ∧ R 112 (0, L0 112 [vR 88, vI p, vI q], [], G, 0, 0) (fun r2 G2 => r2 = r ∧ ∃ (A' : Nat → List Int) (F' : Nat → Int), G2 = LAY (shA A') (shF F') ∧ A' 0 = A 0 ∧ REL (c + 1) A' F')) := by
  have hR0 := hR
  obtain ⟨hL, hPE, hTH, hTP, hDE, hLE, hNO, hAC, hRO, hRE⟩ := hR
  have j_p := i_p
  unfold inI at j_p
  have j_q := i_q
  unfold inI at j_q
  have h87 : (A 87).length = 9 := hL 87 (by decide)
  have h5 : (A 5).length = 30 := hL 5 (by decide)
  have h6 : (A 6).length = 30 := hL 6 (by decide)
  have h7 : (A 7).length = 30 := hL 7 (by decide)
  have h94 : (A 94).length = 30 := hL 94 (by decide)
  have r2 := REFU_at hRE (k := 2) (by decide) (by decide) hc
  have r3 := REFU_at hRE (k := 3) (by decide) (by decide) hc
  have r4 := REFU_at hRE (k := 4) (by decide) (by decide) hc
  have r5 := REFU_at hRE (k := 5) (by decide) (by decide) hc
  have r6 := REFU_at hRE (k := 6) (by decide) (by decide) hc
  have r7 := REFU_at hRE (k := 7) (by decide) (by decide) hc
  have r8 := REFU_at hRE (k := 8) (by decide) (by decide) hc
  obtain ⟨t1, t2, t3, t4, t5, t6⟩ := hTH
  obtain ⟨p1, p2, p3, p4, p5, p6⟩ := hPE
  have q3 := p3 p
  have q4 := p4 p
  obtain ⟨un, hun⟩ : ∃ x, x = sm (fun i : Nat => if rd (A 6) i = 0 then 0 else 1) (F 3).toNat := ⟨_, rfl⟩
  have hun2 : un = cb (A 6) (F 3).toNat := by rw [hun]; exact sm_cb _ _
  have hun3 := cb_le (A 6) (F 3).toNat
  have cw : 0 ≤ p → p < F 3 → ∀ v, cb (wr (A 6) p v) (F 3).toNat = cb (A 6) (F 3).toNat + ((if v = 0 then 0 else 1) - (if rd (A 6) p = 0 then 0 else 1)) := fun q1 q2 v => by
    rw [cb_wr q1 (by omega), if_pos (by omega)]
  refine R_s (P := True) (f' := (5, [some (vR 1), some (vI p), some (vI q), none], [vI p, vR 2], LAY (shA A) (shF F), 0, 0)) hc62 3 rfl trivial ?_
  refine R_cv hc62 rfl rfl ?_ (fun r G h => h)
  refine R_s (P := True) (f' := (1, [some (vR 2), some (vI p)], [vI p], LAY (shA A) (shF F), 0, 0)) hc5 1 rfl trivial ?_
  refine R_if (t := 16) hc5 rfl rfl (fun (c1 : p < 0) => ?_) (fun (c1 : ¬ (p < 0)) => ?_)
  · refine R_s (P := True) (f' := (17, [some (vR 2), some (vI p)], [vI 0], LAY (shA A) (shF F), 0, 0)) hc5 1 rfl trivial ?_
    refine R_retz hc5 rfl rfl (Or.inl rfl) ?_
    refine R_s (f' := (8, [some (vR 1), some (vI p), some (vI q), none], [vI 0], LAY (shA A) (shF F), 0, 0)) hc62 0 rfl trivial ?_
    refine R_if (t := 18) hc62 rfl rfl (fun (z : ¬ 0 = 0) => absurd z (by decide)) (fun (_ : ¬ (¬ 0 = 0)) => ?_)
    refine R_s (P := True) (f' := (14, [some (vR 1), some (vI p), some (vI q), none], [vI (-3), vR 1], LAY (shA A) (shF F), 0, 0)) hc62 2 rfl trivial ?_
    refine R_cv hc62 rfl rfl ?_ (fun r G h => h)
    refine R_s (P := True) (f' := (3, [some (vR 1), some (vI (-3))], [vI (-2), vI (-3)], LAY (shA A) (shF F), 0, 0)) hc93 2 rfl trivial ?_
    refine R_ic (t := 23) hc93 rfl rfl (fun (z : (-2) < (-3)) => absurd z (by decide)) (fun (_ : ¬ ((-2) < (-3))) => ?_)
    refine R_s (P := True) (f' := (9, [some (vR 1), some (vI (-3))], [vI (-8), vI (-3)], LAY (shA A) (shF F), 0, 0)) hc93 2 rfl trivial ?_
    refine R_ic (t := 23) hc93 rfl rfl (fun (z : (-3) < (-8)) => absurd z (by decide)) (fun (_ : ¬ ((-3) < (-8))) => ?_)
    refine R_s (P := inI 3 ∧ (0 ≤ 3 ∧ 3 < ((A 87).length : Int)) ∧ inI ((rd (A 87) 3) + 1) ∧ (0 ≤ 3 ∧ 3 < ((A 87).length : Int)) ∧ True) (f' := (24, [some (vR 1), some (vI (-3))], [vI (-3)], LAY (u (shA A) 87 (wr (A 87) 3 ((rd (A 87) 3) + 1))) (shF F), 0, 0)) hc93 10 rfl ⟨⟨by omega, by omega⟩, ⟨by omega, by omega⟩, ⟨by omega, by omega⟩, ⟨by omega, by omega⟩, trivial⟩ ?_
    refine R_reti hc93 rfl rfl ?_
    refine R_s (f' := (17, [some (vR 1), some (vI p), some (vI q), none], [vI (-3)], LAY (u (shA A) 87 (wr (A 87) 3 ((rd (A 87) 3) + 1))) (shF F), 0, 0)) hc62 0 rfl trivial ?_
    refine R_reti hc62 rfl rfl ⟨⟨_, rfl⟩, ⟨_, _, rfl, rfl⟩, ?_⟩
    refine R_s (P := True) (f' := (2, [some (vR 88), some (vI p), some (vI q), none], [vI p, vR 88], LAY (u (shA A) 87 (wr (A 87) 3 ((rd (A 87) 3) + 1))) (shF F), 0, 0)) hc112 2 rfl trivial ?_
    refine R_cv hc112 rfl rfl ?_ (fun r G h => h)
    refine R_s (P := inI ((F 3) - 1) ∧ True) (f' := (8, [some (vR 88), some (vI p)], [vI ((F 3) - 1), vI 0, vI p], LAY (u (shA A) 87 (wr (A 87) 3 ((rd (A 87) 3) + 1))) (shF F), 0, 0)) hc106 6 rfl ⟨⟨by omega, by omega⟩, trivial⟩ ?_
    refine R_cs hc106 rfl rfl ?_ (fun r G h => h)
    refine R_s (P := True) (f' := (2, [some (vI p), some (vI 0), some (vI ((F 3) - 1))], [vI 0, vI p], LAY (u (shA A) 87 (wr (A 87) 3 ((rd (A 87) 3) + 1))) (shF F), 0, 0)) hc104 2 rfl trivial ?_
    refine R_ic (t := 14) hc104 rfl rfl (fun (_ : p < 0) => ?_) (fun (z : ¬ (p < 0)) => absurd (show p < 0 by omega) z)
    refine R_s (P := True) (f' := (15, [some (vI p), some (vI 0), some (vI ((F 3) - 1))], [vI 0], LAY (u (shA A) 87 (wr (A 87) 3 ((rd (A 87) 3) + 1))) (shF F), 0, 0)) hc104 1 rfl trivial ?_
    refine R_retz hc104 rfl rfl (Or.inl rfl) ?_
    refine R_s (f' := (11, [some (vR 88), some (vI p)], [vI 0], LAY (u (shA A) 87 (wr (A 87) 3 ((rd (A 87) 3) + 1))) (shF F), 0, 0)) hc106 0 rfl trivial ?_
    refine R_retz hc106 rfl rfl (Or.inl rfl) ?_
    refine R_s (f' := (5, [some (vR 88), some (vI p), some (vI q), none], [vI 0], LAY (u (shA A) 87 (wr (A 87) 3 ((rd (A 87) 3) + 1))) (shF F), 0, 0)) hc112 0 rfl trivial ?_
    refine R_if (t := 15) hc112 rfl rfl (fun (z : ¬ 0 = 0) => absurd z (by decide)) (fun (_ : ¬ (¬ 0 = 0)) => ?_)
    refine R_s (P := True) (f' := (11, [some (vR 88), some (vI p), some (vI q), none], [vI (-3), vR 88], LAY (u (shA A) 87 (wr (A 87) 3 ((rd (A 87) 3) + 1))) (shF F), 0, 0)) hc112 2 rfl trivial ?_
    refine R_cv hc112 rfl rfl ?_ (fun r G h => h)
    refine R_s (P := inI 3 ∧ (0 ≤ 3 ∧ 3 < ((A 87).length : Int)) ∧ inI ((rd (A 87) 3) + 1) ∧ (0 ≤ 3 ∧ 3 < ((A 87).length : Int)) ∧ True) (f' := (12, [some (vR 88), some (vI (-3))], [vI (-3)], LAY (u (u (shA A) 87 (wr (A 87) 3 ((rd (A 87) 3) + 1))) 89 (wr (A 87) 3 ((rd (A 87) 3) + 1))) (shF F), 0, 0)) hc105 10 rfl ⟨⟨by omega, by omega⟩, ⟨by omega, by omega⟩, ⟨by omega, by omega⟩, ⟨by omega, by omega⟩, trivial⟩ ?_
    refine R_reti hc105 rfl rfl ?_
    refine R_s (f' := (14, [some (vR 88), some (vI p), some (vI q), none], [vI (-3)], LAY (u (u (shA A) 87 (wr (A 87) 3 ((rd (A 87) 3) + 1))) 89 (wr (A 87) 3 ((rd (A 87) 3) + 1))) (shF F), 0, 0)) hc112 0 rfl trivial ?_
    refine R_reti hc112 rfl rfl ?_
    first
      | (exfalso; omega; done)
      | exact ⟨rfl, (u A 87 (wr (A 87) 3 ((rd (A 87) 3) + 1))), F, rfl, rfl, REL_ref hR0 (by decide) (by decide)⟩
      | (have e9 : wr (A 6) p 0 = A 6 := (by have h0 : rd (A 6) p = 0 := (by omega); have h1 := wr_rd (l := A 6) (i := p) (by omega) (by omega); rw [h0] at h1; exact h1); exact ⟨rfl, (u A 87 (wr (A 87) 3 ((rd (A 87) 3) + 1))), F, (by rw [e9]; rfl), rfl, REL_ref hR0 (by decide) (by decide)⟩)
  · refine R_s (P := True) (f' := (9, [some (vR 2), some (vI p)], [vI (F 3), vI p], LAY (shA A) (shF F), 0, 0)) hc5 3 rfl trivial ?_
    refine R_ic (t := 16) hc5 rfl rfl (fun (c2 : F 3 ≤ p) => ?_) (fun (c2 : ¬ (F 3 ≤ p)) => ?_)
    · refine R_s (P := True) (f' := (17, [some (vR 2), some (vI p)], [vI 0], LAY (shA A) (shF F), 0, 0)) hc5 1 rfl trivial ?_
      refine R_retz hc5 rfl rfl (Or.inl rfl) ?_
      refine R_s (f' := (8, [some (vR 1), some (vI p), some (vI q), none], [vI 0], LAY (shA A) (shF F), 0, 0)) hc62 0 rfl trivial ?_
      refine R_if (t := 18) hc62 rfl rfl (fun (z : ¬ 0 = 0) => absurd z (by decide)) (fun (_ : ¬ (¬ 0 = 0)) => ?_)
      refine R_s (P := True) (f' := (14, [some (vR 1), some (vI p), some (vI q), none], [vI (-3), vR 1], LAY (shA A) (shF F), 0, 0)) hc62 2 rfl trivial ?_
      refine R_cv hc62 rfl rfl ?_ (fun r G h => h)
      refine R_s (P := True) (f' := (3, [some (vR 1), some (vI (-3))], [vI (-2), vI (-3)], LAY (shA A) (shF F), 0, 0)) hc93 2 rfl trivial ?_
      refine R_ic (t := 23) hc93 rfl rfl (fun (z : (-2) < (-3)) => absurd z (by decide)) (fun (_ : ¬ ((-2) < (-3))) => ?_)
      refine R_s (P := True) (f' := (9, [some (vR 1), some (vI (-3))], [vI (-8), vI (-3)], LAY (shA A) (shF F), 0, 0)) hc93 2 rfl trivial ?_
      refine R_ic (t := 23) hc93 rfl rfl (fun (z : (-3) < (-8)) => absurd z (by decide)) (fun (_ : ¬ ((-3) < (-8))) => ?_)
      refine R_s (P := inI 3 ∧ (0 ≤ 3 ∧ 3 < ((A 87).length : Int)) ∧ inI ((rd (A 87) 3) + 1) ∧ (0 ≤ 3 ∧ 3 < ((A 87).length : Int)) ∧ True) (f' := (24, [some (vR 1), some (vI (-3))], [vI (-3)], LAY (u (shA A) 87 (wr (A 87) 3 ((rd (A 87) 3) + 1))) (shF F), 0, 0)) hc93 10 rfl ⟨⟨by omega, by omega⟩, ⟨by omega, by omega⟩, ⟨by omega, by omega⟩, ⟨by omega, by omega⟩, trivial⟩ ?_
      refine R_reti hc93 rfl rfl ?_
      refine R_s (f' := (17, [some (vR 1), some (vI p), some (vI q), none], [vI (-3)], LAY (u (shA A) 87 (wr (A 87) 3 ((rd (A 87) 3) + 1))) (shF F), 0, 0)) hc62 0 rfl trivial ?_
      refine R_reti hc62 rfl rfl ⟨⟨_, rfl⟩, ⟨_, _, rfl, rfl⟩, ?_⟩
      refine R_s (P := True) (f' := (2, [some (vR 88), some (vI p), some (vI q), none], [vI p, vR 88], LAY (u (shA A) 87 (wr (A 87) 3 ((rd (A 87) 3) + 1))) (shF F), 0, 0)) hc112 2 rfl trivial ?_
      refine R_cv hc112 rfl rfl ?_ (fun r G h => h)
      refine R_s (P := inI ((F 3) - 1) ∧ True) (f' := (8, [some (vR 88), some (vI p)], [vI ((F 3) - 1), vI 0, vI p], LAY (u (shA A) 87 (wr (A 87) 3 ((rd (A 87) 3) + 1))) (shF F), 0, 0)) hc106 6 rfl ⟨⟨by omega, by omega⟩, trivial⟩ ?_
      refine R_cs hc106 rfl rfl ?_ (fun r G h => h)
      refine R_s (P := True) (f' := (2, [some (vI p), some (vI 0), some (vI ((F 3) - 1))], [vI 0, vI p], LAY (u (shA A) 87 (wr (A 87) 3 ((rd (A 87) 3) + 1))) (shF F), 0, 0)) hc104 2 rfl trivial ?_
      refine R_ic (t := 14) hc104 rfl rfl (fun (z : p < 0) => absurd z (by omega)) (fun (_ : ¬ (p < 0)) => ?_)
      refine R_s (P := True) (f' := (7, [some (vI p), some (vI 0), some (vI ((F 3) - 1))], [vI ((F 3) - 1), vI p], LAY (u (shA A) 87 (wr (A 87) 3 ((rd (A 87) 3) + 1))) (shF F), 0, 0)) hc104 2 rfl trivial ?_
      refine R_ic (t := 14) hc104 rfl rfl (fun (_ : (F 3) - 1 < p) => ?_) (fun (z : ¬ ((F 3) - 1 < p)) => absurd (show (F 3) - 1 < p by omega) z)
      refine R_s (P := True) (f' := (15, [some (vI p), some (vI 0), some (vI ((F 3) - 1))], [vI 0], LAY (u (shA A) 87 (wr (A 87) 3 ((rd (A 87) 3) + 1))) (shF F), 0, 0)) hc104 1 rfl trivial ?_
      refine R_retz hc104 rfl rfl (Or.inl rfl) ?_
      refine R_s (f' := (11, [some (vR 88), some (vI p)], [vI 0], LAY (u (shA A) 87 (wr (A 87) 3 ((rd (A 87) 3) + 1))) (shF F), 0, 0)) hc106 0 rfl trivial ?_
      refine R_retz hc106 rfl rfl (Or.inl rfl) ?_
      refine R_s (f' := (5, [some (vR 88), some (vI p), some (vI q), none], [vI 0], LAY (u (shA A) 87 (wr (A 87) 3 ((rd (A 87) 3) + 1))) (shF F), 0, 0)) hc112 0 rfl trivial ?_
      refine R_if (t := 15) hc112 rfl rfl (fun (z : ¬ 0 = 0) => absurd z (by decide)) (fun (_ : ¬ (¬ 0 = 0)) => ?_)
      refine R_s (P := True) (f' := (11, [some (vR 88), some (vI p), some (vI q), none], [vI (-3), vR 88], LAY (u (shA A) 87 (wr (A 87) 3 ((rd (A 87) 3) + 1))) (shF F), 0, 0)) hc112 2 rfl trivial ?_
      refine R_cv hc112 rfl rfl ?_ (fun r G h => h)
      refine R_s (P := inI 3 ∧ (0 ≤ 3 ∧ 3 < ((A 87).length : Int)) ∧ inI ((rd (A 87) 3) + 1) ∧ (0 ≤ 3 ∧ 3 < ((A 87).length : Int)) ∧ True) (f' := (12, [some (vR 88), some (vI (-3))], [vI (-3)], LAY (u (u (shA A) 87 (wr (A 87) 3 ((rd (A 87) 3) + 1))) 89 (wr (A 87) 3 ((rd (A 87) 3) + 1))) (shF F), 0, 0)) hc105 10 rfl ⟨⟨by omega, by omega⟩, ⟨by omega, by omega⟩, ⟨by omega, by omega⟩, ⟨by omega, by omega⟩, trivial⟩ ?_
      refine R_reti hc105 rfl rfl ?_
      refine R_s (f' := (14, [some (vR 88), some (vI p), some (vI q), none], [vI (-3)], LAY (u (u (shA A) 87 (wr (A 87) 3 ((rd (A 87) 3) + 1))) 89 (wr (A 87) 3 ((rd (A 87) 3) + 1))) (shF F), 0, 0)) hc112 0 rfl trivial ?_
      refine R_reti hc112 rfl rfl ?_
      first
        | (exfalso; omega; done)
        | exact ⟨rfl, (u A 87 (wr (A 87) 3 ((rd (A 87) 3) + 1))), F, rfl, rfl, REL_ref hR0 (by decide) (by decide)⟩
        | (have e9 : wr (A 6) p 0 = A 6 := (by have h0 : rd (A 6) p = 0 := (by omega); have h1 := wr_rd (l := A 6) (i := p) (by omega) (by omega); rw [h0] at h1; exact h1); exact ⟨rfl, (u A 87 (wr (A 87) 3 ((rd (A 87) 3) + 1))), F, (by rw [e9]; rfl), rfl, REL_ref hR0 (by decide) (by decide)⟩)
    · refine R_s (P := True) (f' := (17, [some (vR 2), some (vI p)], [vI 1], LAY (shA A) (shF F), 0, 0)) hc5 2 rfl trivial ?_
      refine R_retz hc5 rfl rfl (Or.inr rfl) ?_
      refine R_s (f' := (8, [some (vR 1), some (vI p), some (vI q), none], [vI 1], LAY (shA A) (shF F), 0, 0)) hc62 0 rfl trivial ?_
      refine R_if (t := 18) hc62 rfl rfl (fun (_ : ¬ 1 = 0) => ?_) (fun (z : ¬ (¬ 1 = 0)) => absurd (by decide) z)
      refine R_s (P := True) (f' := (19, [some (vR 1), some (vI p), some (vI q), none], [vI q], LAY (shA A) (shF F), 0, 0)) hc62 1 rfl trivial ?_
      refine R_cs hc62 rfl rfl ?_ (fun r G h => h)
      refine R_s (P := True) (f' := (1, [some (vI q)], [vI q], LAY (shA A) (shF F), 0, 0)) hc94 1 rfl trivial ?_
      refine R_if (t := 9) hc94 rfl rfl (fun (c4 : q = 0) => ?_) (fun (c4 : ¬ (q = 0)) => ?_)
      · refine R_s (P := True) (f' := (14, [some (vI q)], [vI 1], LAY (shA A) (shF F), 0, 0)) hc94 2 rfl trivial ?_
        refine R_retz hc94 rfl rfl (Or.inr rfl) ?_
        refine R_s (f' := (22, [some (vR 1), some (vI p), some (vI q), none], [vI 1], LAY (shA A) (shF F), 0, 0)) hc62 0 rfl trivial ?_
        refine R_if (t := 32) hc62 rfl rfl (fun (_ : ¬ 1 = 0) => ?_) (fun (z : ¬ (¬ 1 = 0)) => absurd (by decide) z)
        refine R_s (P := (0 ≤ p ∧ p < ((A 6).length : Int)) ∧ True) (f' := (41, [some (vR 1), some (vI p), some (vI q), none], [vI (rd (A 6) p)], LAY (shA A) (shF F), 0, 0)) hc62 5 rfl ⟨⟨by omega, by omega⟩, trivial⟩ ?_
        refine R_cs hc62 rfl rfl ?_ (fun r G h => h)
        refine R_s (P := True) (f' := (1, [some (vI (rd (A 6) p))], [vI (rd (A 6) p)], LAY (shA A) (shF F), 0, 0)) hc95 1 rfl trivial ?_
        refine R_if (t := 8) hc95 rfl rfl (fun (c6 : rd (A 6) p = 0) => ?_) (fun (c6 : ¬ (rd (A 6) p = 0)) => ?_)
        · refine R_s (P := True) (f' := (9, [some (vI (rd (A 6) p))], [vI 0], LAY (shA A) (shF F), 0, 0)) hc95 1 rfl trivial ?_
          refine R_reti hc95 rfl rfl ?_
          refine R_s (f' := (44, [some (vR 1), some (vI p), some (vI q), none], [vI 0], LAY (shA A) (shF F), 0, 0)) hc62 0 rfl trivial ?_
          refine R_s (P := True) (f' := (47, [some (vR 1), some (vI p), some (vI q), some (vI 0)], [vI 1, vI q], LAY (shA A) (shF F), 0, 0)) hc62 3 rfl trivial ?_
          refine R_ic (t := 81) hc62 rfl rfl (fun (_ : ¬ q = 1) => ?_) (fun (z : ¬ (¬ q = 1)) => absurd (show ¬ q = 1 by omega) z)
          refine R_s (P := True) (f' := (83, [some (vR 1), some (vI p), some (vI q), some (vI 0)], [vI 1, vI 0], LAY (shA A) (shF F), 0, 0)) hc62 2 rfl trivial ?_
          refine R_ic (t := 95) hc62 rfl rfl (fun (_ : ¬ 0 = 1) => ?_) (fun (z : ¬ (¬ 0 = 1)) => absurd (by decide) z)
          refine R_s (P := True) (f' := (96, [some (vR 1), some (vI p), some (vI q), some (vI 0)], [vI 0], LAY (shA A) (shF F), 0, 0)) hc62 1 rfl trivial ?_
          refine R_reti hc62 rfl rfl ⟨⟨_, rfl⟩, ⟨_, _, rfl, rfl⟩, ?_⟩
          refine R_s (P := True) (f' := (2, [some (vR 88), some (vI p), some (vI q), none], [vI p, vR 88], LAY (shA A) (shF F), 0, 0)) hc112 2 rfl trivial ?_
          refine R_cv hc112 rfl rfl ?_ (fun r G h => h)
          refine R_s (P := inI ((F 3) - 1) ∧ True) (f' := (8, [some (vR 88), some (vI p)], [vI ((F 3) - 1), vI 0, vI p], LAY (shA A) (shF F), 0, 0)) hc106 6 rfl ⟨⟨by omega, by omega⟩, trivial⟩ ?_
          refine R_cs hc106 rfl rfl ?_ (fun r G h => h)
          refine R_s (P := True) (f' := (2, [some (vI p), some (vI 0), some (vI ((F 3) - 1))], [vI 0, vI p], LAY (shA A) (shF F), 0, 0)) hc104 2 rfl trivial ?_
          refine R_ic (t := 14) hc104 rfl rfl (fun (z : p < 0) => absurd z (by omega)) (fun (_ : ¬ (p < 0)) => ?_)
          refine R_s (P := True) (f' := (7, [some (vI p), some (vI 0), some (vI ((F 3) - 1))], [vI ((F 3) - 1), vI p], LAY (shA A) (shF F), 0, 0)) hc104 2 rfl trivial ?_
          refine R_ic (t := 14) hc104 rfl rfl (fun (z : (F 3) - 1 < p) => absurd z (by omega)) (fun (_ : ¬ ((F 3) - 1 < p)) => ?_)
          refine R_s (P := True) (f' := (15, [some (vI p), some (vI 0), some (vI ((F 3) - 1))], [vI 1], LAY (shA A) (shF F), 0, 0)) hc104 2 rfl trivial ?_
          refine R_retz hc104 rfl rfl (Or.inr rfl) ?_
          refine R_s (f' := (11, [some (vR 88), some (vI p)], [vI 1], LAY (shA A) (shF F), 0, 0)) hc106 0 rfl trivial ?_
          refine R_retz hc106 rfl rfl (Or.inr rfl) ?_
          refine R_s (f' := (5, [some (vR 88), some (vI p), some (vI q), none], [vI 1], LAY (shA A) (shF F), 0, 0)) hc112 0 rfl trivial ?_
          refine R_if (t := 15) hc112 rfl rfl (fun (_ : ¬ 1 = 0) => ?_) (fun (z : ¬ (¬ 1 = 0)) => absurd (by decide) z)
          refine R_s (P := True) (f' := (18, [some (vR 88), some (vI p), some (vI q), none], [vI 1, vI 0, vI q], LAY (shA A) (shF F), 0, 0)) hc112 3 rfl trivial ?_
          refine R_cs hc112 rfl rfl ?_ (fun r G h => h)
          refine R_s (P := True) (f' := (2, [some (vI q), some (vI 0), some (vI 1)], [vI 0, vI q], LAY (shA A) (shF F), 0, 0)) hc104 2 rfl trivial ?_
          refine R_ic (t := 14) hc104 rfl rfl (fun (z : q < 0) => absurd z (by omega)) (fun (_ : ¬ (q < 0)) => ?_)
          refine R_s (P := True) (f' := (7, [some (vI q), some (vI 0), some (vI 1)], [vI 1, vI q], LAY (shA A) (shF F), 0, 0)) hc104 2 rfl trivial ?_
          refine R_ic (t := 14) hc104 rfl rfl (fun (z : 1 < q) => absurd z (by omega)) (fun (_ : ¬ (1 < q)) => ?_)
          refine R_s (P := True) (f' := (15, [some (vI q), some (vI 0), some (vI 1)], [vI 1], LAY (shA A) (shF F), 0, 0)) hc104 2 rfl trivial ?_
          refine R_retz hc104 rfl rfl (Or.inr rfl) ?_
          refine R_s (f' := (21, [some (vR 88), some (vI p), some (vI q), none], [vI 1], LAY (shA A) (shF F), 0, 0)) hc112 0 rfl trivial ?_
          refine R_if (t := 31) hc112 rfl rfl (fun (_ : ¬ 1 = 0) => ?_) (fun (z : ¬ (¬ 1 = 0)) => absurd (by decide) z)
          refine R_s (P := (0 ≤ p ∧ p < ((A 6).length : Int)) ∧ True) (f' := (37, [some (vR 88), some (vI p), some (vI q), none], [vI (rd (A 6) p)], LAY (shA A) (shF F), 0, 0)) hc112 4 rfl ⟨⟨by omega, by omega⟩, trivial⟩ ?_
          refine R_if (t := 44) hc112 rfl rfl (fun (_ : rd (A 6) p = 0) => ?_) (fun (z : ¬ (rd (A 6) p = 0)) => absurd (show rd (A 6) p = 0 by omega) z)
          refine R_s (P := True) (f' := (48, [some (vR 88), some (vI p), some (vI q), some (vI 0)], [vI 1, vI q], LAY (shA A) (shF F), 0, 0)) hc112 4 rfl trivial ?_
          refine R_ic (t := 68) hc112 rfl rfl (fun (_ : ¬ q = 1) => ?_) (fun (z : ¬ (¬ q = 1)) => absurd (show ¬ q = 1 by omega) z)
          refine R_s (P := True) (f' := (70, [some (vR 88), some (vI p), some (vI q), some (vI 0)], [vI 1, vI q], LAY (shA A) (shF F), 0, 0)) hc112 2 rfl trivial ?_
          refine R_ic (t := 78) hc112 rfl rfl (fun (z : q = 1) => absurd z (by omega)) (fun (_ : ¬ (q = 1)) => ?_)
          refine R_s (P := True) (f' := (75, [some (vR 88), some (vI p), some (vI q), some (vI 0)], [vI 1, vI 0], LAY (shA A) (shF F), 0, 0)) hc112 2 rfl trivial ?_
          refine R_ic (t := 85) hc112 rfl rfl (fun (_ : ¬ 0 = 1) => ?_) (fun (z : ¬ (¬ 0 = 1)) => absurd (by decide) z)
          refine R_s (P := True) (f' := (92, [some (vR 88), some (vI p), some (vI q), some (vI 0)], [vI 1, vI q, vI p, vR 93], LAY (shA A) (shF F), 0, 0)) hc112 5 rfl trivial ?_
          refine R_ic (t := 99) hc112 rfl rfl (fun (_ : ¬ q = 1) => ?_) (fun (z : ¬ (¬ q = 1)) => absurd (show ¬ q = 1 by omega) z)
          refine R_s (P := ((0 ≤ p ∧ p < ((A 6).length : Int)) ∧ (0 = 0 ∨ 0 = 1)) ∧ ((0 ≤ p ∧ p < ((A 94).length : Int)) ∧ (0 = 0 ∨ 0 = 1)) ∧ True) (f' := (109, [some (vR 88), some (vI p), some (vI q), some (vI 0)], [vI 0], LAY (u (u (shA A) 93 (wr (A 6) p 0)) 94 (wr (A 94) p 0)) (shF F), 0, 0)) hc112 8 rfl ⟨⟨⟨by omega, by omega⟩, by omega⟩, ⟨⟨by omega, by omega⟩, by omega⟩, trivial⟩ ?_
          refine R_reti hc112 rfl rfl ?_
          first
            | (exfalso; omega; done)
            | exact ⟨rfl, (u A 94 (wr (A 94) p 0)), F, rfl, rfl, ⟨(LENS_u hL (by show (wr (A 94) p 0).length = (A 94).length; simp only [wr_len])), (by have z := PERS_unk hR0.2.1 (hL 5 (by decide)) (hL 6 (by decide)) (hL 7 (by decide)) (hL 94 (by decide)) (p := p) (v := 0) ⟨by omega, by omega⟩ (by decide) (D' := A 5) (.inl rfl) (T' := A 7) (.inl rfl) (fun q => absurd q (by decide)) (by rw [cw (by omega) (by omega)]; (repeat' split) <;> omega); rw [e9] at z; exact z), hR0.2.2.1, hR0.2.2.2.1, hR0.2.2.2.2.1, hR0.2.2.2.2.2.1, hR0.2.2.2.2.2.2.1, hR0.2.2.2.2.2.2.2.1, hR0.2.2.2.2.2.2.2.2.1, (REFU_c hR0.2.2.2.2.2.2.2.2.2)⟩⟩
            | (have e9 : wr (A 6) p 0 = A 6 := (by have h0 : rd (A 6) p = 0 := (by omega); have h1 := wr_rd (l := A 6) (i := p) (by omega) (by omega); rw [h0] at h1; exact h1); exact ⟨rfl, (u A 94 (wr (A 94) p 0)), F, (by rw [e9]; rfl), rfl, ⟨(LENS_u hL (by show (wr (A 94) p 0).length = (A 94).length; simp only [wr_len])), (by have z := PERS_unk hR0.2.1 (hL 5 (by decide)) (hL 6 (by decide)) (hL 7 (by decide)) (hL 94 (by decide)) (p := p) (v := 0) ⟨by omega, by omega⟩ (by decide) (D' := A 5) (.inl rfl) (T' := A 7) (.inl rfl) (fun q => absurd q (by decide)) (by rw [cw (by omega) (by omega)]; (repeat' split) <;> omega); rw [e9] at z; exact z), hR0.2.2.1, hR0.2.2.2.1, hR0.2.2.2.2.1, hR0.2.2.2.2.2.1, hR0.2.2.2.2.2.2.1, hR0.2.2.2.2.2.2.2.1, hR0.2.2.2.2.2.2.2.2.1, (REFU_c hR0.2.2.2.2.2.2.2.2.2)⟩⟩)
        · refine R_s (P := True) (f' := (9, [some (vI (rd (A 6) p))], [vI 1], LAY (shA A) (shF F), 0, 0)) hc95 2 rfl trivial ?_
          refine R_reti hc95 rfl rfl ?_
          refine R_s (f' := (44, [some (vR 1), some (vI p), some (vI q), none], [vI 1], LAY (shA A) (shF F), 0, 0)) hc62 0 rfl trivial ?_
          refine R_s (P := True) (f' := (47, [some (vR 1), some (vI p), some (vI q), some (vI 1)], [vI 1, vI q], LAY (shA A) (shF F), 0, 0)) hc62 3 rfl trivial ?_
          refine R_ic (t := 81) hc62 rfl rfl (fun (_ : ¬ q = 1) => ?_) (fun (z : ¬ (¬ q = 1)) => absurd (show ¬ q = 1 by omega) z)
          refine R_s (P := True) (f' := (83, [some (vR 1), some (vI p), some (vI q), some (vI 1)], [vI 1, vI 1], LAY (shA A) (shF F), 0, 0)) hc62 2 rfl trivial ?_
          refine R_ic (t := 95) hc62 rfl rfl (fun (z : ¬ 1 = 1) => absurd z (by decide)) (fun (_ : ¬ (¬ 1 = 1)) => ?_)
          refine R_s (P := True) (f' := (92, [some (vR 1), some (vI p), some (vI q), some (vI 1)], [vI (-1), vI p, vR 2], LAY (shA A) (shF F), 0, 0)) hc62 4 rfl trivial ?_
          refine R_cv hc62 rfl rfl ?_ (fun r G h => h)
          refine R_s (P := (0 ≤ p ∧ p < ((A 5).length : Int)) ∧ ((0 ≤ p ∧ p < ((A 6).length : Int)) ∧ (0 = 0 ∨ 0 = 1)) ∧ True) (f' := (14, [some (vR 2), some (vI p), some (vI (-1))], [], LAY (u (u (shA A) 5 (wr (A 5) p (-1))) 6 (wr (A 6) p 0)) (shF F), 0, 0)) hc8 10 rfl ⟨⟨by omega, by omega⟩, ⟨⟨by omega, by omega⟩, by omega⟩, trivial⟩ ?_
          refine R_retv hc8 rfl rfl ?_
          refine R_s (f' := (95, [some (vR 1), some (vI p), some (vI q), some (vI 1)], [], LAY (u (u (shA A) 5 (wr (A 5) p (-1))) 6 (wr (A 6) p 0)) (shF F), 0, 0)) hc62 0 rfl trivial ?_
          refine R_s (P := True) (f' := (96, [some (vR 1), some (vI p), some (vI q), some (vI 1)], [vI 1], LAY (u (u (shA A) 5 (wr (A 5) p (-1))) 6 (wr (A 6) p 0)) (shF F), 0, 0)) hc62 1 rfl trivial ?_
          refine R_reti hc62 rfl rfl ⟨⟨_, rfl⟩, ⟨_, _, rfl, rfl⟩, ?_⟩
          refine R_s (P := True) (f' := (2, [some (vR 88), some (vI p), some (vI q), none], [vI p, vR 88], LAY (u (u (shA A) 5 (wr (A 5) p (-1))) 6 (wr (A 6) p 0)) (shF F), 0, 0)) hc112 2 rfl trivial ?_
          refine R_cv hc112 rfl rfl ?_ (fun r G h => h)
          refine R_s (P := inI ((F 3) - 1) ∧ True) (f' := (8, [some (vR 88), some (vI p)], [vI ((F 3) - 1), vI 0, vI p], LAY (u (u (shA A) 5 (wr (A 5) p (-1))) 6 (wr (A 6) p 0)) (shF F), 0, 0)) hc106 6 rfl ⟨⟨by omega, by omega⟩, trivial⟩ ?_
          refine R_cs hc106 rfl rfl ?_ (fun r G h => h)
          refine R_s (P := True) (f' := (2, [some (vI p), some (vI 0), some (vI ((F 3) - 1))], [vI 0, vI p], LAY (u (u (shA A) 5 (wr (A 5) p (-1))) 6 (wr (A 6) p 0)) (shF F), 0, 0)) hc104 2 rfl trivial ?_
          refine R_ic (t := 14) hc104 rfl rfl (fun (z : p < 0) => absurd z (by omega)) (fun (_ : ¬ (p < 0)) => ?_)
          refine R_s (P := True) (f' := (7, [some (vI p), some (vI 0), some (vI ((F 3) - 1))], [vI ((F 3) - 1), vI p], LAY (u (u (shA A) 5 (wr (A 5) p (-1))) 6 (wr (A 6) p 0)) (shF F), 0, 0)) hc104 2 rfl trivial ?_
          refine R_ic (t := 14) hc104 rfl rfl (fun (z : (F 3) - 1 < p) => absurd z (by omega)) (fun (_ : ¬ ((F 3) - 1 < p)) => ?_)
          refine R_s (P := True) (f' := (15, [some (vI p), some (vI 0), some (vI ((F 3) - 1))], [vI 1], LAY (u (u (shA A) 5 (wr (A 5) p (-1))) 6 (wr (A 6) p 0)) (shF F), 0, 0)) hc104 2 rfl trivial ?_
          refine R_retz hc104 rfl rfl (Or.inr rfl) ?_
          refine R_s (f' := (11, [some (vR 88), some (vI p)], [vI 1], LAY (u (u (shA A) 5 (wr (A 5) p (-1))) 6 (wr (A 6) p 0)) (shF F), 0, 0)) hc106 0 rfl trivial ?_
          refine R_retz hc106 rfl rfl (Or.inr rfl) ?_
          refine R_s (f' := (5, [some (vR 88), some (vI p), some (vI q), none], [vI 1], LAY (u (u (shA A) 5 (wr (A 5) p (-1))) 6 (wr (A 6) p 0)) (shF F), 0, 0)) hc112 0 rfl trivial ?_
          refine R_if (t := 15) hc112 rfl rfl (fun (_ : ¬ 1 = 0) => ?_) (fun (z : ¬ (¬ 1 = 0)) => absurd (by decide) z)
          refine R_s (P := True) (f' := (18, [some (vR 88), some (vI p), some (vI q), none], [vI 1, vI 0, vI q], LAY (u (u (shA A) 5 (wr (A 5) p (-1))) 6 (wr (A 6) p 0)) (shF F), 0, 0)) hc112 3 rfl trivial ?_
          refine R_cs hc112 rfl rfl ?_ (fun r G h => h)
          refine R_s (P := True) (f' := (2, [some (vI q), some (vI 0), some (vI 1)], [vI 0, vI q], LAY (u (u (shA A) 5 (wr (A 5) p (-1))) 6 (wr (A 6) p 0)) (shF F), 0, 0)) hc104 2 rfl trivial ?_
          refine R_ic (t := 14) hc104 rfl rfl (fun (z : q < 0) => absurd z (by omega)) (fun (_ : ¬ (q < 0)) => ?_)
          refine R_s (P := True) (f' := (7, [some (vI q), some (vI 0), some (vI 1)], [vI 1, vI q], LAY (u (u (shA A) 5 (wr (A 5) p (-1))) 6 (wr (A 6) p 0)) (shF F), 0, 0)) hc104 2 rfl trivial ?_
          refine R_ic (t := 14) hc104 rfl rfl (fun (z : 1 < q) => absurd z (by omega)) (fun (_ : ¬ (1 < q)) => ?_)
          refine R_s (P := True) (f' := (15, [some (vI q), some (vI 0), some (vI 1)], [vI 1], LAY (u (u (shA A) 5 (wr (A 5) p (-1))) 6 (wr (A 6) p 0)) (shF F), 0, 0)) hc104 2 rfl trivial ?_
          refine R_retz hc104 rfl rfl (Or.inr rfl) ?_
          refine R_s (f' := (21, [some (vR 88), some (vI p), some (vI q), none], [vI 1], LAY (u (u (shA A) 5 (wr (A 5) p (-1))) 6 (wr (A 6) p 0)) (shF F), 0, 0)) hc112 0 rfl trivial ?_
          refine R_if (t := 31) hc112 rfl rfl (fun (_ : ¬ 1 = 0) => ?_) (fun (z : ¬ (¬ 1 = 0)) => absurd (by decide) z)
          refine R_s (P := (0 ≤ p ∧ p < ((A 6).length : Int)) ∧ True) (f' := (37, [some (vR 88), some (vI p), some (vI q), none], [vI (rd (A 6) p)], LAY (u (u (shA A) 5 (wr (A 5) p (-1))) 6 (wr (A 6) p 0)) (shF F), 0, 0)) hc112 4 rfl ⟨⟨by omega, by omega⟩, trivial⟩ ?_
          refine R_if (t := 44) hc112 rfl rfl (fun (z : rd (A 6) p = 0) => absurd z (by omega)) (fun (_ : ¬ (rd (A 6) p = 0)) => ?_)
          refine R_s (P := True) (f' := (48, [some (vR 88), some (vI p), some (vI q), some (vI 1)], [vI 1, vI q], LAY (u (u (shA A) 5 (wr (A 5) p (-1))) 6 (wr (A 6) p 0)) (shF F), 0, 0)) hc112 5 rfl trivial ?_
          refine R_ic (t := 68) hc112 rfl rfl (fun (_ : ¬ q = 1) => ?_) (fun (z : ¬ (¬ q = 1)) => absurd (show ¬ q = 1 by omega) z)
          refine R_s (P := True) (f' := (70, [some (vR 88), some (vI p), some (vI q), some (vI 1)], [vI 1, vI q], LAY (u (u (shA A) 5 (wr (A 5) p (-1))) 6 (wr (A 6) p 0)) (shF F), 0, 0)) hc112 2 rfl trivial ?_
          refine R_ic (t := 78) hc112 rfl rfl (fun (z : q = 1) => absurd z (by omega)) (fun (_ : ¬ (q = 1)) => ?_)
          refine R_s (P := True) (f' := (75, [some (vR 88), some (vI p), some (vI q), some (vI 1)], [vI 1, vI 1], LAY (u (u (shA A) 5 (wr (A 5) p (-1))) 6 (wr (A 6) p 0)) (shF F), 0, 0)) hc112 2 rfl trivial ?_
          refine R_ic (t := 85) hc112 rfl rfl (fun (z : ¬ 1 = 1) => absurd z (by decide)) (fun (_ : ¬ (¬ 1 = 1)) => ?_)
          refine R_s (P := (0 ≤ p ∧ p < ((A 5).length : Int)) ∧ True) (f' := (92, [some (vR 88), some (vI p), some (vI q), some (vI 1)], [vI 1, vI q, vI p, vR 93], LAY (u (u (u (shA A) 5 (wr (A 5) p (-1))) 6 (wr (A 6) p 0)) 92 (wr (A 5) p (-1))) (shF F), 0, 0)) hc112 10 rfl ⟨⟨by omega, by omega⟩, trivial⟩ ?_
          refine R_ic (t := 99) hc112 rfl rfl (fun (_ : ¬ q = 1) => ?_) (fun (z : ¬ (¬ q = 1)) => absurd (show ¬ q = 1 by omega) z)
          refine R_s (P := ((0 ≤ p ∧ p < ((A 6).length : Int)) ∧ (0 = 0 ∨ 0 = 1)) ∧ ((0 ≤ p ∧ p < ((A 94).length : Int)) ∧ (0 = 0 ∨ 0 = 1)) ∧ True) (f' := (109, [some (vR 88), some (vI p), some (vI q), some (vI 1)], [vI 1], LAY (u (u (u (u (u (shA A) 5 (wr (A 5) p (-1))) 6 (wr (A 6) p 0)) 92 (wr (A 5) p (-1))) 93 (wr (A 6) p 0)) 94 (wr (A 94) p 0)) (shF F), 0, 0)) hc112 8 rfl ⟨⟨⟨by omega, by omega⟩, by omega⟩, ⟨⟨by omega, by omega⟩, by omega⟩, trivial⟩ ?_
          refine R_reti hc112 rfl rfl ?_
          first
            | (exfalso; omega; done)
            | exact ⟨rfl, (u (u (u A 5 (wr (A 5) p (-1))) 6 (wr (A 6) p 0)) 94 (wr (A 94) p 0)), F, rfl, rfl, ⟨(LENS_u (LENS_u (LENS_u hL (by show (wr (A 5) p (-1)).length = (A 5).length; simp only [wr_len])) (by show (wr (A 6) p 0).length = (A 6).length; simp only [wr_len])) (by show (wr (A 94) p 0).length = (A 94).length; simp only [wr_len])), (PERS_unk hR0.2.1 (hL 5 (by decide)) (hL 6 (by decide)) (hL 7 (by decide)) (hL 94 (by decide)) (p := p) (v := 0) ⟨by omega, by omega⟩ (by decide) (D' := wr (A 5) p (-1)) (.inr rfl) (T' := A 7) (.inl rfl) (fun q => absurd q (by decide)) (by rw [cw (by omega) (by omega)]; (repeat' split) <;> omega)), hR0.2.2.1, hR0.2.2.2.1, hR0.2.2.2.2.1, hR0.2.2.2.2.2.1, hR0.2.2.2.2.2.2.1, hR0.2.2.2.2.2.2.2.1, hR0.2.2.2.2.2.2.2.2.1, (REFU_c hR0.2.2.2.2.2.2.2.2.2)⟩⟩
            | (have e9 : wr (A 6) p 0 = A 6 := (by have h0 : rd (A 6) p = 0 := (by omega); have h1 := wr_rd (l := A 6) (i := p) (by omega) (by omega); rw [h0] at h1; exact h1); exact ⟨rfl, (u (u (u A 5 (wr (A 5) p (-1))) 6 (wr (A 6) p 0)) 94 (wr (A 94) p 0)), F, (by rw [e9]; rfl), rfl, ⟨(LENS_u (LENS_u (LENS_u hL (by show (wr (A 5) p (-1)).length = (A 5).length; simp only [wr_len])) (by show (wr (A 6) p 0).length = (A 6).length; simp only [wr_len])) (by show (wr (A 94) p 0).length = (A 94).length; simp only [wr_len])), (PERS_unk hR0.2.1 (hL 5 (by decide)) (hL 6 (by decide)) (hL 7 (by decide)) (hL 94 (by decide)) (p := p) (v := 0) ⟨by omega, by omega⟩ (by decide) (D' := wr (A 5) p (-1)) (.inr rfl) (T' := A 7) (.inl rfl) (fun q => absurd q (by decide)) (by rw [cw (by omega) (by omega)]; (repeat' split) <;> omega)), hR0.2.2.1, hR0.2.2.2.1, hR0.2.2.2.2.1, hR0.2.2.2.2.2.1, hR0.2.2.2.2.2.2.1, hR0.2.2.2.2.2.2.2.1, hR0.2.2.2.2.2.2.2.2.1, (REFU_c hR0.2.2.2.2.2.2.2.2.2)⟩⟩)
      · refine R_s (P := True) (f' := (6, [some (vI q)], [vI 1, vI q], LAY (shA A) (shF F), 0, 0)) hc94 2 rfl trivial ?_
        refine R_ic (t := 13) hc94 rfl rfl (fun (c5 : ¬ q = 1) => ?_) (fun (c5 : ¬ (¬ q = 1)) => ?_)
        · refine R_s (P := True) (f' := (14, [some (vI q)], [vI 0], LAY (shA A) (shF F), 0, 0)) hc94 1 rfl trivial ?_
          refine R_retz hc94 rfl rfl (Or.inl rfl) ?_
          refine R_s (f' := (22, [some (vR 1), some (vI p), some (vI q), none], [vI 0], LAY (shA A) (shF F), 0, 0)) hc62 0 rfl trivial ?_
          refine R_if (t := 32) hc62 rfl rfl (fun (z : ¬ 0 = 0) => absurd z (by decide)) (fun (_ : ¬ (¬ 0 = 0)) => ?_)
          refine R_s (P := True) (f' := (28, [some (vR 1), some (vI p), some (vI q), none], [vI (-7), vR 1], LAY (shA A) (shF F), 0, 0)) hc62 2 rfl trivial ?_
          refine R_cv hc62 rfl rfl ?_ (fun r G h => h)
          refine R_s (P := True) (f' := (3, [some (vR 1), some (vI (-7))], [vI (-2), vI (-7)], LAY (shA A) (shF F), 0, 0)) hc93 2 rfl trivial ?_
          refine R_ic (t := 23) hc93 rfl rfl (fun (z : (-2) < (-7)) => absurd z (by decide)) (fun (_ : ¬ ((-2) < (-7))) => ?_)
          refine R_s (P := True) (f' := (9, [some (vR 1), some (vI (-7))], [vI (-8), vI (-7)], LAY (shA A) (shF F), 0, 0)) hc93 2 rfl trivial ?_
          refine R_ic (t := 23) hc93 rfl rfl (fun (z : (-7) < (-8)) => absurd z (by decide)) (fun (_ : ¬ ((-7) < (-8))) => ?_)
          refine R_s (P := inI 7 ∧ (0 ≤ 7 ∧ 7 < ((A 87).length : Int)) ∧ inI ((rd (A 87) 7) + 1) ∧ (0 ≤ 7 ∧ 7 < ((A 87).length : Int)) ∧ True) (f' := (24, [some (vR 1), some (vI (-7))], [vI (-7)], LAY (u (shA A) 87 (wr (A 87) 7 ((rd (A 87) 7) + 1))) (shF F), 0, 0)) hc93 10 rfl ⟨⟨by omega, by omega⟩, ⟨by omega, by omega⟩, ⟨by omega, by omega⟩, ⟨by omega, by omega⟩, trivial⟩ ?_
          refine R_reti hc93 rfl rfl ?_
          refine R_s (f' := (31, [some (vR 1), some (vI p), some (vI q), none], [vI (-7)], LAY (u (shA A) 87 (wr (A 87) 7 ((rd (A 87) 7) + 1))) (shF F), 0, 0)) hc62 0 rfl trivial ?_
          refine R_reti hc62 rfl rfl ⟨⟨_, rfl⟩, ⟨_, _, rfl, rfl⟩, ?_⟩
          refine R_s (P := True) (f' := (2, [some (vR 88), some (vI p), some (vI q), none], [vI p, vR 88], LAY (u (shA A) 87 (wr (A 87) 7 ((rd (A 87) 7) + 1))) (shF F), 0, 0)) hc112 2 rfl trivial ?_
          refine R_cv hc112 rfl rfl ?_ (fun r G h => h)
          refine R_s (P := inI ((F 3) - 1) ∧ True) (f' := (8, [some (vR 88), some (vI p)], [vI ((F 3) - 1), vI 0, vI p], LAY (u (shA A) 87 (wr (A 87) 7 ((rd (A 87) 7) + 1))) (shF F), 0, 0)) hc106 6 rfl ⟨⟨by omega, by omega⟩, trivial⟩ ?_
          refine R_cs hc106 rfl rfl ?_ (fun r G h => h)
          refine R_s (P := True) (f' := (2, [some (vI p), some (vI 0), some (vI ((F 3) - 1))], [vI 0, vI p], LAY (u (shA A) 87 (wr (A 87) 7 ((rd (A 87) 7) + 1))) (shF F), 0, 0)) hc104 2 rfl trivial ?_
          refine R_ic (t := 14) hc104 rfl rfl (fun (z : p < 0) => absurd z (by omega)) (fun (_ : ¬ (p < 0)) => ?_)
          refine R_s (P := True) (f' := (7, [some (vI p), some (vI 0), some (vI ((F 3) - 1))], [vI ((F 3) - 1), vI p], LAY (u (shA A) 87 (wr (A 87) 7 ((rd (A 87) 7) + 1))) (shF F), 0, 0)) hc104 2 rfl trivial ?_
          refine R_ic (t := 14) hc104 rfl rfl (fun (z : (F 3) - 1 < p) => absurd z (by omega)) (fun (_ : ¬ ((F 3) - 1 < p)) => ?_)
          refine R_s (P := True) (f' := (15, [some (vI p), some (vI 0), some (vI ((F 3) - 1))], [vI 1], LAY (u (shA A) 87 (wr (A 87) 7 ((rd (A 87) 7) + 1))) (shF F), 0, 0)) hc104 2 rfl trivial ?_
          refine R_retz hc104 rfl rfl (Or.inr rfl) ?_
          refine R_s (f' := (11, [some (vR 88), some (vI p)], [vI 1], LAY (u (shA A) 87 (wr (A 87) 7 ((rd (A 87) 7) + 1))) (shF F), 0, 0)) hc106 0 rfl trivial ?_
          refine R_retz hc106 rfl rfl (Or.inr rfl) ?_
          refine R_s (f' := (5, [some (vR 88), some (vI p), some (vI q), none], [vI 1], LAY (u (shA A) 87 (wr (A 87) 7 ((rd (A 87) 7) + 1))) (shF F), 0, 0)) hc112 0 rfl trivial ?_
          refine R_if (t := 15) hc112 rfl rfl (fun (_ : ¬ 1 = 0) => ?_) (fun (z : ¬ (¬ 1 = 0)) => absurd (by decide) z)
          refine R_s (P := True) (f' := (18, [some (vR 88), some (vI p), some (vI q), none], [vI 1, vI 0, vI q], LAY (u (shA A) 87 (wr (A 87) 7 ((rd (A 87) 7) + 1))) (shF F), 0, 0)) hc112 3 rfl trivial ?_
          refine R_cs hc112 rfl rfl ?_ (fun r G h => h)
          refine R_s (P := True) (f' := (2, [some (vI q), some (vI 0), some (vI 1)], [vI 0, vI q], LAY (u (shA A) 87 (wr (A 87) 7 ((rd (A 87) 7) + 1))) (shF F), 0, 0)) hc104 2 rfl trivial ?_
          refine R_ic (t := 14) hc104 rfl rfl (fun (c112 : q < 0) => ?_) (fun (c112 : ¬ (q < 0)) => ?_)
          · refine R_s (P := True) (f' := (15, [some (vI q), some (vI 0), some (vI 1)], [vI 0], LAY (u (shA A) 87 (wr (A 87) 7 ((rd (A 87) 7) + 1))) (shF F), 0, 0)) hc104 1 rfl trivial ?_
            refine R_retz hc104 rfl rfl (Or.inl rfl) ?_
            refine R_s (f' := (21, [some (vR 88), some (vI p), some (vI q), none], [vI 0], LAY (u (shA A) 87 (wr (A 87) 7 ((rd (A 87) 7) + 1))) (shF F), 0, 0)) hc112 0 rfl trivial ?_
            refine R_if (t := 31) hc112 rfl rfl (fun (z : ¬ 0 = 0) => absurd z (by decide)) (fun (_ : ¬ (¬ 0 = 0)) => ?_)
            refine R_s (P := True) (f' := (27, [some (vR 88), some (vI p), some (vI q), none], [vI (-7), vR 88], LAY (u (shA A) 87 (wr (A 87) 7 ((rd (A 87) 7) + 1))) (shF F), 0, 0)) hc112 2 rfl trivial ?_
            refine R_cv hc112 rfl rfl ?_ (fun r G h => h)
            refine R_s (P := inI 7 ∧ (0 ≤ 7 ∧ 7 < ((A 87).length : Int)) ∧ inI ((rd (A 87) 7) + 1) ∧ (0 ≤ 7 ∧ 7 < ((A 87).length : Int)) ∧ True) (f' := (12, [some (vR 88), some (vI (-7))], [vI (-7)], LAY (u (u (shA A) 87 (wr (A 87) 7 ((rd (A 87) 7) + 1))) 89 (wr (A 87) 7 ((rd (A 87) 7) + 1))) (shF F), 0, 0)) hc105 10 rfl ⟨⟨by omega, by omega⟩, ⟨by omega, by omega⟩, ⟨by omega, by omega⟩, ⟨by omega, by omega⟩, trivial⟩ ?_
            refine R_reti hc105 rfl rfl ?_
            refine R_s (f' := (30, [some (vR 88), some (vI p), some (vI q), none], [vI (-7)], LAY (u (u (shA A) 87 (wr (A 87) 7 ((rd (A 87) 7) + 1))) 89 (wr (A 87) 7 ((rd (A 87) 7) + 1))) (shF F), 0, 0)) hc112 0 rfl trivial ?_
            refine R_reti hc112 rfl rfl ?_
            first
              | (exfalso; omega; done)
              | exact ⟨rfl, (u A 87 (wr (A 87) 7 ((rd (A 87) 7) + 1))), F, rfl, rfl, REL_ref hR0 (by decide) (by decide)⟩
              | (have e9 : wr (A 6) p 0 = A 6 := (by have h0 : rd (A 6) p = 0 := (by omega); have h1 := wr_rd (l := A 6) (i := p) (by omega) (by omega); rw [h0] at h1; exact h1); exact ⟨rfl, (u A 87 (wr (A 87) 7 ((rd (A 87) 7) + 1))), F, (by rw [e9]; rfl), rfl, REL_ref hR0 (by decide) (by decide)⟩)
          · refine R_s (P := True) (f' := (7, [some (vI q), some (vI 0), some (vI 1)], [vI 1, vI q], LAY (u (shA A) 87 (wr (A 87) 7 ((rd (A 87) 7) + 1))) (shF F), 0, 0)) hc104 2 rfl trivial ?_
            refine R_ic (t := 14) hc104 rfl rfl (fun (_ : 1 < q) => ?_) (fun (z : ¬ (1 < q)) => absurd (show 1 < q by omega) z)
            refine R_s (P := True) (f' := (15, [some (vI q), some (vI 0), some (vI 1)], [vI 0], LAY (u (shA A) 87 (wr (A 87) 7 ((rd (A 87) 7) + 1))) (shF F), 0, 0)) hc104 1 rfl trivial ?_
            refine R_retz hc104 rfl rfl (Or.inl rfl) ?_
            refine R_s (f' := (21, [some (vR 88), some (vI p), some (vI q), none], [vI 0], LAY (u (shA A) 87 (wr (A 87) 7 ((rd (A 87) 7) + 1))) (shF F), 0, 0)) hc112 0 rfl trivial ?_
            refine R_if (t := 31) hc112 rfl rfl (fun (z : ¬ 0 = 0) => absurd z (by decide)) (fun (_ : ¬ (¬ 0 = 0)) => ?_)
            refine R_s (P := True) (f' := (27, [some (vR 88), some (vI p), some (vI q), none], [vI (-7), vR 88], LAY (u (shA A) 87 (wr (A 87) 7 ((rd (A 87) 7) + 1))) (shF F), 0, 0)) hc112 2 rfl trivial ?_
            refine R_cv hc112 rfl rfl ?_ (fun r G h => h)
            refine R_s (P := inI 7 ∧ (0 ≤ 7 ∧ 7 < ((A 87).length : Int)) ∧ inI ((rd (A 87) 7) + 1) ∧ (0 ≤ 7 ∧ 7 < ((A 87).length : Int)) ∧ True) (f' := (12, [some (vR 88), some (vI (-7))], [vI (-7)], LAY (u (u (shA A) 87 (wr (A 87) 7 ((rd (A 87) 7) + 1))) 89 (wr (A 87) 7 ((rd (A 87) 7) + 1))) (shF F), 0, 0)) hc105 10 rfl ⟨⟨by omega, by omega⟩, ⟨by omega, by omega⟩, ⟨by omega, by omega⟩, ⟨by omega, by omega⟩, trivial⟩ ?_
            refine R_reti hc105 rfl rfl ?_
            refine R_s (f' := (30, [some (vR 88), some (vI p), some (vI q), none], [vI (-7)], LAY (u (u (shA A) 87 (wr (A 87) 7 ((rd (A 87) 7) + 1))) 89 (wr (A 87) 7 ((rd (A 87) 7) + 1))) (shF F), 0, 0)) hc112 0 rfl trivial ?_
            refine R_reti hc112 rfl rfl ?_
            first
              | (exfalso; omega; done)
              | exact ⟨rfl, (u A 87 (wr (A 87) 7 ((rd (A 87) 7) + 1))), F, rfl, rfl, REL_ref hR0 (by decide) (by decide)⟩
              | (have e9 : wr (A 6) p 0 = A 6 := (by have h0 : rd (A 6) p = 0 := (by omega); have h1 := wr_rd (l := A 6) (i := p) (by omega) (by omega); rw [h0] at h1; exact h1); exact ⟨rfl, (u A 87 (wr (A 87) 7 ((rd (A 87) 7) + 1))), F, (by rw [e9]; rfl), rfl, REL_ref hR0 (by decide) (by decide)⟩)
        · refine R_s (P := True) (f' := (14, [some (vI q)], [vI 1], LAY (shA A) (shF F), 0, 0)) hc94 2 rfl trivial ?_
          refine R_retz hc94 rfl rfl (Or.inr rfl) ?_
          refine R_s (f' := (22, [some (vR 1), some (vI p), some (vI q), none], [vI 1], LAY (shA A) (shF F), 0, 0)) hc62 0 rfl trivial ?_
          refine R_if (t := 32) hc62 rfl rfl (fun (_ : ¬ 1 = 0) => ?_) (fun (z : ¬ (¬ 1 = 0)) => absurd (by decide) z)
          refine R_s (P := (0 ≤ p ∧ p < ((A 6).length : Int)) ∧ True) (f' := (41, [some (vR 1), some (vI p), some (vI q), none], [vI (rd (A 6) p)], LAY (shA A) (shF F), 0, 0)) hc62 5 rfl ⟨⟨by omega, by omega⟩, trivial⟩ ?_
          refine R_cs hc62 rfl rfl ?_ (fun r G h => h)
          refine R_s (P := True) (f' := (1, [some (vI (rd (A 6) p))], [vI (rd (A 6) p)], LAY (shA A) (shF F), 0, 0)) hc95 1 rfl trivial ?_
          refine R_if (t := 8) hc95 rfl rfl (fun (c7 : rd (A 6) p = 0) => ?_) (fun (c7 : ¬ (rd (A 6) p = 0)) => ?_)
          · refine R_s (P := True) (f' := (9, [some (vI (rd (A 6) p))], [vI 0], LAY (shA A) (shF F), 0, 0)) hc95 1 rfl trivial ?_
            refine R_reti hc95 rfl rfl ?_
            refine R_s (f' := (44, [some (vR 1), some (vI p), some (vI q), none], [vI 0], LAY (shA A) (shF F), 0, 0)) hc62 0 rfl trivial ?_
            refine R_s (P := True) (f' := (47, [some (vR 1), some (vI p), some (vI q), some (vI 0)], [vI 1, vI q], LAY (shA A) (shF F), 0, 0)) hc62 3 rfl trivial ?_
            refine R_ic (t := 81) hc62 rfl rfl (fun (z : ¬ q = 1) => absurd z (by omega)) (fun (_ : ¬ (¬ q = 1)) => ?_)
            refine R_s (P := True) (f' := (54, [some (vR 1), some (vI p), some (vI q), some (vI 0)], [vR 2], LAY (shA A) (shF F), 0, 0)) hc62 2 rfl trivial ?_
            refine R_cv hc62 rfl rfl (l_unsure (A := (shA A)) (F := (shF F)) (LENS_sh hL) ⟨p1, p2⟩) (fun r G9 hp9 => ?_)
            obtain ⟨e1, rfl⟩ := hp9
            have e2 : r = some (vI un) := by rw [hun]; exact e1
            clear e1
            subst e2
            refine R_s (f' := (57, [some (vR 1), some (vI p), some (vI q), some (vI 0)], [vI un], LAY (shA A) (shF F), 0, 0)) hc62 0 rfl trivial ?_
            refine R_s (P := inI (un - 0) ∧ True) (f' := (60, [some (vR 1), some (vI p), some (vI q), some (vI 0)], [vI 5, vI (un - 0)], LAY (shA A) (shF F), 0, 0)) hc62 3 rfl ⟨⟨by omega, by omega⟩, trivial⟩ ?_
            refine R_ic (t := 70) hc62 rfl rfl (fun (c9 : un - 0 < 5) => ?_) (fun (c9 : ¬ (un - 0 < 5)) => ?_)
            · refine R_s (P := True) (f' := (75, [some (vR 1), some (vI p), some (vI q), some (vI 0)], [vI p, vR 2], LAY (shA A) (shF F), 0, 0)) hc62 3 rfl trivial ?_
              refine R_cv hc62 rfl rfl ?_ (fun r G h => h)
              refine R_s (P := (0 ≤ p ∧ p < ((A 5).length : Int)) ∧ ((0 ≤ p ∧ p < ((A 6).length : Int)) ∧ (1 = 0 ∨ 1 = 1)) ∧ ((0 ≤ p ∧ p < ((A 7).length : Int)) ∧ (0 = 0 ∨ 0 = 1)) ∧ True) (f' := (21, [some (vR 2), some (vI p)], [], LAY (u (u (u (shA A) 5 (wr (A 5) p (-1))) 6 (wr (A 6) p 1)) 7 (wr (A 7) p 0)) (shF F), 0, 0)) hc9 15 rfl ⟨⟨by omega, by omega⟩, ⟨⟨by omega, by omega⟩, by omega⟩, ⟨⟨by omega, by omega⟩, by omega⟩, trivial⟩ ?_
              refine R_retv hc9 rfl rfl ?_
              refine R_s (f' := (78, [some (vR 1), some (vI p), some (vI q), some (vI 0)], [], LAY (u (u (u (shA A) 5 (wr (A 5) p (-1))) 6 (wr (A 6) p 1)) 7 (wr (A 7) p 0)) (shF F), 0, 0)) hc62 0 rfl trivial ?_
              refine R_s (P := True) (f' := (96, [some (vR 1), some (vI p), some (vI q), some (vI 0)], [vI 0], LAY (u (u (u (shA A) 5 (wr (A 5) p (-1))) 6 (wr (A 6) p 1)) 7 (wr (A 7) p 0)) (shF F), 0, 0)) hc62 2 rfl trivial ?_
              refine R_reti hc62 rfl rfl ⟨⟨_, rfl⟩, ⟨_, _, rfl, rfl⟩, ?_⟩
              refine R_s (P := True) (f' := (2, [some (vR 88), some (vI p), some (vI q), none], [vI p, vR 88], LAY (u (u (u (shA A) 5 (wr (A 5) p (-1))) 6 (wr (A 6) p 1)) 7 (wr (A 7) p 0)) (shF F), 0, 0)) hc112 2 rfl trivial ?_
              refine R_cv hc112 rfl rfl ?_ (fun r G h => h)
              refine R_s (P := inI ((F 3) - 1) ∧ True) (f' := (8, [some (vR 88), some (vI p)], [vI ((F 3) - 1), vI 0, vI p], LAY (u (u (u (shA A) 5 (wr (A 5) p (-1))) 6 (wr (A 6) p 1)) 7 (wr (A 7) p 0)) (shF F), 0, 0)) hc106 6 rfl ⟨⟨by omega, by omega⟩, trivial⟩ ?_
              refine R_cs hc106 rfl rfl ?_ (fun r G h => h)
              refine R_s (P := True) (f' := (2, [some (vI p), some (vI 0), some (vI ((F 3) - 1))], [vI 0, vI p], LAY (u (u (u (shA A) 5 (wr (A 5) p (-1))) 6 (wr (A 6) p 1)) 7 (wr (A 7) p 0)) (shF F), 0, 0)) hc104 2 rfl trivial ?_
              refine R_ic (t := 14) hc104 rfl rfl (fun (z : p < 0) => absurd z (by omega)) (fun (_ : ¬ (p < 0)) => ?_)
              refine R_s (P := True) (f' := (7, [some (vI p), some (vI 0), some (vI ((F 3) - 1))], [vI ((F 3) - 1), vI p], LAY (u (u (u (shA A) 5 (wr (A 5) p (-1))) 6 (wr (A 6) p 1)) 7 (wr (A 7) p 0)) (shF F), 0, 0)) hc104 2 rfl trivial ?_
              refine R_ic (t := 14) hc104 rfl rfl (fun (z : (F 3) - 1 < p) => absurd z (by omega)) (fun (_ : ¬ ((F 3) - 1 < p)) => ?_)
              refine R_s (P := True) (f' := (15, [some (vI p), some (vI 0), some (vI ((F 3) - 1))], [vI 1], LAY (u (u (u (shA A) 5 (wr (A 5) p (-1))) 6 (wr (A 6) p 1)) 7 (wr (A 7) p 0)) (shF F), 0, 0)) hc104 2 rfl trivial ?_
              refine R_retz hc104 rfl rfl (Or.inr rfl) ?_
              refine R_s (f' := (11, [some (vR 88), some (vI p)], [vI 1], LAY (u (u (u (shA A) 5 (wr (A 5) p (-1))) 6 (wr (A 6) p 1)) 7 (wr (A 7) p 0)) (shF F), 0, 0)) hc106 0 rfl trivial ?_
              refine R_retz hc106 rfl rfl (Or.inr rfl) ?_
              refine R_s (f' := (5, [some (vR 88), some (vI p), some (vI q), none], [vI 1], LAY (u (u (u (shA A) 5 (wr (A 5) p (-1))) 6 (wr (A 6) p 1)) 7 (wr (A 7) p 0)) (shF F), 0, 0)) hc112 0 rfl trivial ?_
              refine R_if (t := 15) hc112 rfl rfl (fun (_ : ¬ 1 = 0) => ?_) (fun (z : ¬ (¬ 1 = 0)) => absurd (by decide) z)
              refine R_s (P := True) (f' := (18, [some (vR 88), some (vI p), some (vI q), none], [vI 1, vI 0, vI q], LAY (u (u (u (shA A) 5 (wr (A 5) p (-1))) 6 (wr (A 6) p 1)) 7 (wr (A 7) p 0)) (shF F), 0, 0)) hc112 3 rfl trivial ?_
              refine R_cs hc112 rfl rfl ?_ (fun r G h => h)
              refine R_s (P := True) (f' := (2, [some (vI q), some (vI 0), some (vI 1)], [vI 0, vI q], LAY (u (u (u (shA A) 5 (wr (A 5) p (-1))) 6 (wr (A 6) p 1)) 7 (wr (A 7) p 0)) (shF F), 0, 0)) hc104 2 rfl trivial ?_
              refine R_ic (t := 14) hc104 rfl rfl (fun (z : q < 0) => absurd z (by omega)) (fun (_ : ¬ (q < 0)) => ?_)
              refine R_s (P := True) (f' := (7, [some (vI q), some (vI 0), some (vI 1)], [vI 1, vI q], LAY (u (u (u (shA A) 5 (wr (A 5) p (-1))) 6 (wr (A 6) p 1)) 7 (wr (A 7) p 0)) (shF F), 0, 0)) hc104 2 rfl trivial ?_
              refine R_ic (t := 14) hc104 rfl rfl (fun (z : 1 < q) => absurd z (by omega)) (fun (_ : ¬ (1 < q)) => ?_)
              refine R_s (P := True) (f' := (15, [some (vI q), some (vI 0), some (vI 1)], [vI 1], LAY (u (u (u (shA A) 5 (wr (A 5) p (-1))) 6 (wr (A 6) p 1)) 7 (wr (A 7) p 0)) (shF F), 0, 0)) hc104 2 rfl trivial ?_
              refine R_retz hc104 rfl rfl (Or.inr rfl) ?_
              refine R_s (f' := (21, [some (vR 88), some (vI p), some (vI q), none], [vI 1], LAY (u (u (u (shA A) 5 (wr (A 5) p (-1))) 6 (wr (A 6) p 1)) 7 (wr (A 7) p 0)) (shF F), 0, 0)) hc112 0 rfl trivial ?_
              refine R_if (t := 31) hc112 rfl rfl (fun (_ : ¬ 1 = 0) => ?_) (fun (z : ¬ (¬ 1 = 0)) => absurd (by decide) z)
              refine R_s (P := (0 ≤ p ∧ p < ((A 6).length : Int)) ∧ True) (f' := (37, [some (vR 88), some (vI p), some (vI q), none], [vI (rd (A 6) p)], LAY (u (u (u (shA A) 5 (wr (A 5) p (-1))) 6 (wr (A 6) p 1)) 7 (wr (A 7) p 0)) (shF F), 0, 0)) hc112 4 rfl ⟨⟨by omega, by omega⟩, trivial⟩ ?_
              refine R_if (t := 44) hc112 rfl rfl (fun (_ : rd (A 6) p = 0) => ?_) (fun (z : ¬ (rd (A 6) p = 0)) => absurd (show rd (A 6) p = 0 by omega) z)
              refine R_s (P := True) (f' := (48, [some (vR 88), some (vI p), some (vI q), some (vI 0)], [vI 1, vI q], LAY (u (u (u (shA A) 5 (wr (A 5) p (-1))) 6 (wr (A 6) p 1)) 7 (wr (A 7) p 0)) (shF F), 0, 0)) hc112 4 rfl trivial ?_
              refine R_ic (t := 68) hc112 rfl rfl (fun (z : ¬ q = 1) => absurd z (by omega)) (fun (_ : ¬ (¬ q = 1)) => ?_)
              refine R_s (P := True) (f' := (52, [some (vR 88), some (vI p), some (vI q), some (vI 0)], [vR 88], LAY (u (u (u (shA A) 5 (wr (A 5) p (-1))) 6 (wr (A 6) p 1)) 7 (wr (A 7) p 0)) (shF F), 0, 0)) hc112 1 rfl trivial ?_
              refine R_cv hc112 rfl rfl (l_unknowns (A := (u (u (u (shA A) 5 (wr (A 5) p (-1))) 6 (wr (A 6) p 1)) 7 (wr (A 7) p 0))) (F := (shF F)) (LENS_u (LENS_u (LENS_u (LENS_sh hL) (by show (wr (A 5) p (-1)).length = (A 5).length; simp only [wr_len])) (by show (wr (A 6) p 1).length = (A 6).length; simp only [wr_len])) (by show (wr (A 7) p 0).length = (A 7).length; simp only [wr_len])) ⟨p1, p2⟩) (fun r G9 hp9 => ?_)
              obtain ⟨e1, rfl⟩ := hp9
              have e2 : r = some (vI un) := by rw [hun]; exact e1
              clear e1
              subst e2
              refine R_s (f' := (55, [some (vR 88), some (vI p), some (vI q), some (vI 0)], [vI un], LAY (u (u (u (shA A) 5 (wr (A 5) p (-1))) 6 (wr (A 6) p 1)) 7 (wr (A 7) p 0)) (shF F), 0, 0)) hc112 0 rfl trivial ?_
              refine R_s (P := inI (un - 0) ∧ True) (f' := (58, [some (vR 88), some (vI p), some (vI q), some (vI 0)], [vI 5, vI (un - 0)], LAY (u (u (u (shA A) 5 (wr (A 5) p (-1))) 6 (wr (A 6) p 1)) 7 (wr (A 7) p 0)) (shF F), 0, 0)) hc112 3 rfl ⟨⟨by omega, by omega⟩, trivial⟩ ?_
              refine R_ic (t := 68) hc112 rfl rfl (fun (_ : un - 0 < 5) => ?_) (fun (z : ¬ (un - 0 < 5)) => absurd (show un - 0 < 5 by omega) z)
              refine R_s (P := True) (f' := (70, [some (vR 88), some (vI p), some (vI q), some (vI 0)], [vI 1, vI q], LAY (u (u (u (shA A) 5 (wr (A 5) p (-1))) 6 (wr (A 6) p 1)) 7 (wr (A 7) p 0)) (shF F), 0, 0)) hc112 2 rfl trivial ?_
              refine R_ic (t := 78) hc112 rfl rfl (fun (_ : q = 1) => ?_) (fun (z : ¬ (q = 1)) => absurd (show q = 1 by omega) z)
              refine R_s (P := (0 ≤ p ∧ p < ((A 5).length : Int)) ∧ True) (f' := (92, [some (vR 88), some (vI p), some (vI q), some (vI 0)], [vI 1, vI q, vI p, vR 93], LAY (u (u (u (u (shA A) 5 (wr (A 5) p (-1))) 6 (wr (A 6) p 1)) 7 (wr (A 7) p 0)) 92 (wr (A 5) p (-1))) (shF F), 0, 0)) hc112 10 rfl ⟨⟨by omega, by omega⟩, trivial⟩ ?_
              refine R_ic (t := 99) hc112 rfl rfl (fun (z : ¬ q = 1) => absurd z (by omega)) (fun (_ : ¬ (¬ q = 1)) => ?_)
              refine R_s (P := ((0 ≤ p ∧ p < ((A 6).length : Int)) ∧ (1 = 0 ∨ 1 = 1)) ∧ ((0 ≤ p ∧ p < ((A 94).length : Int)) ∧ (0 = 0 ∨ 0 = 1)) ∧ True) (f' := (109, [some (vR 88), some (vI p), some (vI q), some (vI 0)], [vI 0], LAY (u (u (u (u (u (u (shA A) 5 (wr (A 5) p (-1))) 6 (wr (A 6) p 1)) 7 (wr (A 7) p 0)) 92 (wr (A 5) p (-1))) 93 (wr (A 6) p 1)) 94 (wr (A 94) p 0)) (shF F), 0, 0)) hc112 9 rfl ⟨⟨⟨by omega, by omega⟩, by omega⟩, ⟨⟨by omega, by omega⟩, by omega⟩, trivial⟩ ?_
              refine R_reti hc112 rfl rfl ?_
              first
                | (exfalso; omega; done)
                | exact ⟨rfl, (u (u (u (u A 5 (wr (A 5) p (-1))) 6 (wr (A 6) p 1)) 7 (wr (A 7) p 0)) 94 (wr (A 94) p 0)), F, rfl, rfl, ⟨(LENS_u (LENS_u (LENS_u (LENS_u hL (by show (wr (A 5) p (-1)).length = (A 5).length; simp only [wr_len])) (by show (wr (A 6) p 1).length = (A 6).length; simp only [wr_len])) (by show (wr (A 7) p 0).length = (A 7).length; simp only [wr_len])) (by show (wr (A 94) p 0).length = (A 94).length; simp only [wr_len])), (PERS_unk hR0.2.1 (hL 5 (by decide)) (hL 6 (by decide)) (hL 7 (by decide)) (hL 94 (by decide)) (p := p) (v := 1) ⟨by omega, by omega⟩ (by decide) (D' := wr (A 5) p (-1)) (.inr rfl) (T' := wr (A 7) p 0) (.inr rfl) (fun _ => rfl) (by rw [cw (by omega) (by omega)]; (repeat' split) <;> omega)), hR0.2.2.1, hR0.2.2.2.1, hR0.2.2.2.2.1, hR0.2.2.2.2.2.1, hR0.2.2.2.2.2.2.1, hR0.2.2.2.2.2.2.2.1, hR0.2.2.2.2.2.2.2.2.1, (REFU_c hR0.2.2.2.2.2.2.2.2.2)⟩⟩
                | (have e9 : wr (A 6) p 0 = A 6 := (by have h0 : rd (A 6) p = 0 := (by omega); have h1 := wr_rd (l := A 6) (i := p) (by omega) (by omega); rw [h0] at h1; exact h1); exact ⟨rfl, (u (u (u (u A 5 (wr (A 5) p (-1))) 6 (wr (A 6) p 1)) 7 (wr (A 7) p 0)) 94 (wr (A 94) p 0)), F, (by rw [e9]; rfl), rfl, ⟨(LENS_u (LENS_u (LENS_u (LENS_u hL (by show (wr (A 5) p (-1)).length = (A 5).length; simp only [wr_len])) (by show (wr (A 6) p 1).length = (A 6).length; simp only [wr_len])) (by show (wr (A 7) p 0).length = (A 7).length; simp only [wr_len])) (by show (wr (A 94) p 0).length = (A 94).length; simp only [wr_len])), (PERS_unk hR0.2.1 (hL 5 (by decide)) (hL 6 (by decide)) (hL 7 (by decide)) (hL 94 (by decide)) (p := p) (v := 1) ⟨by omega, by omega⟩ (by decide) (D' := wr (A 5) p (-1)) (.inr rfl) (T' := wr (A 7) p 0) (.inr rfl) (fun _ => rfl) (by rw [cw (by omega) (by omega)]; (repeat' split) <;> omega)), hR0.2.2.1, hR0.2.2.2.1, hR0.2.2.2.2.1, hR0.2.2.2.2.2.1, hR0.2.2.2.2.2.2.1, hR0.2.2.2.2.2.2.2.1, hR0.2.2.2.2.2.2.2.2.1, (REFU_c hR0.2.2.2.2.2.2.2.2.2)⟩⟩)
            · refine R_s (P := True) (f' := (66, [some (vR 1), some (vI p), some (vI q), some (vI 0)], [vI (-8), vR 1], LAY (shA A) (shF F), 0, 0)) hc62 2 rfl trivial ?_
              refine R_cv hc62 rfl rfl ?_ (fun r G h => h)
              refine R_s (P := True) (f' := (3, [some (vR 1), some (vI (-8))], [vI (-2), vI (-8)], LAY (shA A) (shF F), 0, 0)) hc93 2 rfl trivial ?_
              refine R_ic (t := 23) hc93 rfl rfl (fun (z : (-2) < (-8)) => absurd z (by decide)) (fun (_ : ¬ ((-2) < (-8))) => ?_)
              refine R_s (P := True) (f' := (9, [some (vR 1), some (vI (-8))], [vI (-8), vI (-8)], LAY (shA A) (shF F), 0, 0)) hc93 2 rfl trivial ?_
              refine R_ic (t := 23) hc93 rfl rfl (fun (z : (-8) < (-8)) => absurd z (by decide)) (fun (_ : ¬ ((-8) < (-8))) => ?_)
              refine R_s (P := inI 8 ∧ (0 ≤ 8 ∧ 8 < ((A 87).length : Int)) ∧ inI ((rd (A 87) 8) + 1) ∧ (0 ≤ 8 ∧ 8 < ((A 87).length : Int)) ∧ True) (f' := (24, [some (vR 1), some (vI (-8))], [vI (-8)], LAY (u (shA A) 87 (wr (A 87) 8 ((rd (A 87) 8) + 1))) (shF F), 0, 0)) hc93 10 rfl ⟨⟨by omega, by omega⟩, ⟨by omega, by omega⟩, ⟨by omega, by omega⟩, ⟨by omega, by omega⟩, trivial⟩ ?_
              refine R_reti hc93 rfl rfl ?_
              refine R_s (f' := (69, [some (vR 1), some (vI p), some (vI q), some (vI 0)], [vI (-8)], LAY (u (shA A) 87 (wr (A 87) 8 ((rd (A 87) 8) + 1))) (shF F), 0, 0)) hc62 0 rfl trivial ?_
              refine R_reti hc62 rfl rfl ⟨⟨_, rfl⟩, ⟨_, _, rfl, rfl⟩, ?_⟩
              refine R_s (P := True) (f' := (2, [some (vR 88), some (vI p), some (vI q), none], [vI p, vR 88], LAY (u (shA A) 87 (wr (A 87) 8 ((rd (A 87) 8) + 1))) (shF F), 0, 0)) hc112 2 rfl trivial ?_
              refine R_cv hc112 rfl rfl ?_ (fun r G h => h)
              refine R_s (P := inI ((F 3) - 1) ∧ True) (f' := (8, [some (vR 88), some (vI p)], [vI ((F 3) - 1), vI 0, vI p], LAY (u (shA A) 87 (wr (A 87) 8 ((rd (A 87) 8) + 1))) (shF F), 0, 0)) hc106 6 rfl ⟨⟨by omega, by omega⟩, trivial⟩ ?_
              refine R_cs hc106 rfl rfl ?_ (fun r G h => h)
              refine R_s (P := True) (f' := (2, [some (vI p), some (vI 0), some (vI ((F 3) - 1))], [vI 0, vI p], LAY (u (shA A) 87 (wr (A 87) 8 ((rd (A 87) 8) + 1))) (shF F), 0, 0)) hc104 2 rfl trivial ?_
              refine R_ic (t := 14) hc104 rfl rfl (fun (z : p < 0) => absurd z (by omega)) (fun (_ : ¬ (p < 0)) => ?_)
              refine R_s (P := True) (f' := (7, [some (vI p), some (vI 0), some (vI ((F 3) - 1))], [vI ((F 3) - 1), vI p], LAY (u (shA A) 87 (wr (A 87) 8 ((rd (A 87) 8) + 1))) (shF F), 0, 0)) hc104 2 rfl trivial ?_
              refine R_ic (t := 14) hc104 rfl rfl (fun (z : (F 3) - 1 < p) => absurd z (by omega)) (fun (_ : ¬ ((F 3) - 1 < p)) => ?_)
              refine R_s (P := True) (f' := (15, [some (vI p), some (vI 0), some (vI ((F 3) - 1))], [vI 1], LAY (u (shA A) 87 (wr (A 87) 8 ((rd (A 87) 8) + 1))) (shF F), 0, 0)) hc104 2 rfl trivial ?_
              refine R_retz hc104 rfl rfl (Or.inr rfl) ?_
              refine R_s (f' := (11, [some (vR 88), some (vI p)], [vI 1], LAY (u (shA A) 87 (wr (A 87) 8 ((rd (A 87) 8) + 1))) (shF F), 0, 0)) hc106 0 rfl trivial ?_
              refine R_retz hc106 rfl rfl (Or.inr rfl) ?_
              refine R_s (f' := (5, [some (vR 88), some (vI p), some (vI q), none], [vI 1], LAY (u (shA A) 87 (wr (A 87) 8 ((rd (A 87) 8) + 1))) (shF F), 0, 0)) hc112 0 rfl trivial ?_
              refine R_if (t := 15) hc112 rfl rfl (fun (_ : ¬ 1 = 0) => ?_) (fun (z : ¬ (¬ 1 = 0)) => absurd (by decide) z)
              refine R_s (P := True) (f' := (18, [some (vR 88), some (vI p), some (vI q), none], [vI 1, vI 0, vI q], LAY (u (shA A) 87 (wr (A 87) 8 ((rd (A 87) 8) + 1))) (shF F), 0, 0)) hc112 3 rfl trivial ?_
              refine R_cs hc112 rfl rfl ?_ (fun r G h => h)
              refine R_s (P := True) (f' := (2, [some (vI q), some (vI 0), some (vI 1)], [vI 0, vI q], LAY (u (shA A) 87 (wr (A 87) 8 ((rd (A 87) 8) + 1))) (shF F), 0, 0)) hc104 2 rfl trivial ?_
              refine R_ic (t := 14) hc104 rfl rfl (fun (z : q < 0) => absurd z (by omega)) (fun (_ : ¬ (q < 0)) => ?_)
              refine R_s (P := True) (f' := (7, [some (vI q), some (vI 0), some (vI 1)], [vI 1, vI q], LAY (u (shA A) 87 (wr (A 87) 8 ((rd (A 87) 8) + 1))) (shF F), 0, 0)) hc104 2 rfl trivial ?_
              refine R_ic (t := 14) hc104 rfl rfl (fun (z : 1 < q) => absurd z (by omega)) (fun (_ : ¬ (1 < q)) => ?_)
              refine R_s (P := True) (f' := (15, [some (vI q), some (vI 0), some (vI 1)], [vI 1], LAY (u (shA A) 87 (wr (A 87) 8 ((rd (A 87) 8) + 1))) (shF F), 0, 0)) hc104 2 rfl trivial ?_
              refine R_retz hc104 rfl rfl (Or.inr rfl) ?_
              refine R_s (f' := (21, [some (vR 88), some (vI p), some (vI q), none], [vI 1], LAY (u (shA A) 87 (wr (A 87) 8 ((rd (A 87) 8) + 1))) (shF F), 0, 0)) hc112 0 rfl trivial ?_
              refine R_if (t := 31) hc112 rfl rfl (fun (_ : ¬ 1 = 0) => ?_) (fun (z : ¬ (¬ 1 = 0)) => absurd (by decide) z)
              refine R_s (P := (0 ≤ p ∧ p < ((A 6).length : Int)) ∧ True) (f' := (37, [some (vR 88), some (vI p), some (vI q), none], [vI (rd (A 6) p)], LAY (u (shA A) 87 (wr (A 87) 8 ((rd (A 87) 8) + 1))) (shF F), 0, 0)) hc112 4 rfl ⟨⟨by omega, by omega⟩, trivial⟩ ?_
              refine R_if (t := 44) hc112 rfl rfl (fun (_ : rd (A 6) p = 0) => ?_) (fun (z : ¬ (rd (A 6) p = 0)) => absurd (show rd (A 6) p = 0 by omega) z)
              refine R_s (P := True) (f' := (48, [some (vR 88), some (vI p), some (vI q), some (vI 0)], [vI 1, vI q], LAY (u (shA A) 87 (wr (A 87) 8 ((rd (A 87) 8) + 1))) (shF F), 0, 0)) hc112 4 rfl trivial ?_
              refine R_ic (t := 68) hc112 rfl rfl (fun (z : ¬ q = 1) => absurd z (by omega)) (fun (_ : ¬ (¬ q = 1)) => ?_)
              refine R_s (P := True) (f' := (52, [some (vR 88), some (vI p), some (vI q), some (vI 0)], [vR 88], LAY (u (shA A) 87 (wr (A 87) 8 ((rd (A 87) 8) + 1))) (shF F), 0, 0)) hc112 1 rfl trivial ?_
              refine R_cv hc112 rfl rfl (l_unknowns (A := (u (shA A) 87 (wr (A 87) 8 ((rd (A 87) 8) + 1)))) (F := (shF F)) (LENS_u (LENS_sh hL) (by show (wr (A 87) 8 ((rd (A 87) 8) + 1)).length = (A 87).length; simp only [wr_len])) ⟨p1, p2⟩) (fun r G9 hp9 => ?_)
              obtain ⟨e1, rfl⟩ := hp9
              have e2 : r = some (vI un) := by rw [hun]; exact e1
              clear e1
              subst e2
              refine R_s (f' := (55, [some (vR 88), some (vI p), some (vI q), some (vI 0)], [vI un], LAY (u (shA A) 87 (wr (A 87) 8 ((rd (A 87) 8) + 1))) (shF F), 0, 0)) hc112 0 rfl trivial ?_
              refine R_s (P := inI (un - 0) ∧ True) (f' := (58, [some (vR 88), some (vI p), some (vI q), some (vI 0)], [vI 5, vI (un - 0)], LAY (u (shA A) 87 (wr (A 87) 8 ((rd (A 87) 8) + 1))) (shF F), 0, 0)) hc112 3 rfl ⟨⟨by omega, by omega⟩, trivial⟩ ?_
              refine R_ic (t := 68) hc112 rfl rfl (fun (z : un - 0 < 5) => absurd z (by omega)) (fun (_ : ¬ (un - 0 < 5)) => ?_)
              refine R_s (P := True) (f' := (64, [some (vR 88), some (vI p), some (vI q), some (vI 0)], [vI (-8), vR 88], LAY (u (shA A) 87 (wr (A 87) 8 ((rd (A 87) 8) + 1))) (shF F), 0, 0)) hc112 2 rfl trivial ?_
              refine R_cv hc112 rfl rfl ?_ (fun r G h => h)
              refine R_s (P := inI 8 ∧ (0 ≤ 8 ∧ 8 < ((A 87).length : Int)) ∧ inI ((rd (A 87) 8) + 1) ∧ (0 ≤ 8 ∧ 8 < ((A 87).length : Int)) ∧ True) (f' := (12, [some (vR 88), some (vI (-8))], [vI (-8)], LAY (u (u (shA A) 87 (wr (A 87) 8 ((rd (A 87) 8) + 1))) 89 (wr (A 87) 8 ((rd (A 87) 8) + 1))) (shF F), 0, 0)) hc105 10 rfl ⟨⟨by omega, by omega⟩, ⟨by omega, by omega⟩, ⟨by omega, by omega⟩, ⟨by omega, by omega⟩, trivial⟩ ?_
              refine R_reti hc105 rfl rfl ?_
              refine R_s (f' := (67, [some (vR 88), some (vI p), some (vI q), some (vI 0)], [vI (-8)], LAY (u (u (shA A) 87 (wr (A 87) 8 ((rd (A 87) 8) + 1))) 89 (wr (A 87) 8 ((rd (A 87) 8) + 1))) (shF F), 0, 0)) hc112 0 rfl trivial ?_
              refine R_reti hc112 rfl rfl ?_
              first
                | (exfalso; omega; done)
                | exact ⟨rfl, (u A 87 (wr (A 87) 8 ((rd (A 87) 8) + 1))), F, rfl, rfl, REL_ref hR0 (by decide) (by decide)⟩
                | (have e9 : wr (A 6) p 0 = A 6 := (by have h0 : rd (A 6) p = 0 := (by omega); have h1 := wr_rd (l := A 6) (i := p) (by omega) (by omega); rw [h0] at h1; exact h1); exact ⟨rfl, (u A 87 (wr (A 87) 8 ((rd (A 87) 8) + 1))), F, (by rw [e9]; rfl), rfl, REL_ref hR0 (by decide) (by decide)⟩)
          · refine R_s (P := True) (f' := (9, [some (vI (rd (A 6) p))], [vI 1], LAY (shA A) (shF F), 0, 0)) hc95 2 rfl trivial ?_
            refine R_reti hc95 rfl rfl ?_
            refine R_s (f' := (44, [some (vR 1), some (vI p), some (vI q), none], [vI 1], LAY (shA A) (shF F), 0, 0)) hc62 0 rfl trivial ?_
            refine R_s (P := True) (f' := (47, [some (vR 1), some (vI p), some (vI q), some (vI 1)], [vI 1, vI q], LAY (shA A) (shF F), 0, 0)) hc62 3 rfl trivial ?_
            refine R_ic (t := 81) hc62 rfl rfl (fun (z : ¬ q = 1) => absurd z (by omega)) (fun (_ : ¬ (¬ q = 1)) => ?_)
            refine R_s (P := True) (f' := (54, [some (vR 1), some (vI p), some (vI q), some (vI 1)], [vR 2], LAY (shA A) (shF F), 0, 0)) hc62 2 rfl trivial ?_
            refine R_cv hc62 rfl rfl (l_unsure (A := (shA A)) (F := (shF F)) (LENS_sh hL) ⟨p1, p2⟩) (fun r G9 hp9 => ?_)
            obtain ⟨e1, rfl⟩ := hp9
            have e2 : r = some (vI un) := by rw [hun]; exact e1
            clear e1
            subst e2
            refine R_s (f' := (57, [some (vR 1), some (vI p), some (vI q), some (vI 1)], [vI un], LAY (shA A) (shF F), 0, 0)) hc62 0 rfl trivial ?_
            refine R_s (P := inI (un - 1) ∧ True) (f' := (60, [some (vR 1), some (vI p), some (vI q), some (vI 1)], [vI 5, vI (un - 1)], LAY (shA A) (shF F), 0, 0)) hc62 3 rfl ⟨⟨by omega, by omega⟩, trivial⟩ ?_
            refine R_ic (t := 70) hc62 rfl rfl (fun (c9 : un - 1 < 5) => ?_) (fun (c9 : ¬ (un - 1 < 5)) => ?_)
            · refine R_s (P := True) (f' := (75, [some (vR 1), some (vI p), some (vI q), some (vI 1)], [vI p, vR 2], LAY (shA A) (shF F), 0, 0)) hc62 3 rfl trivial ?_
              refine R_cv hc62 rfl rfl ?_ (fun r G h => h)
              refine R_s (P := (0 ≤ p ∧ p < ((A 5).length : Int)) ∧ ((0 ≤ p ∧ p < ((A 6).length : Int)) ∧ (1 = 0 ∨ 1 = 1)) ∧ ((0 ≤ p ∧ p < ((A 7).length : Int)) ∧ (0 = 0 ∨ 0 = 1)) ∧ True) (f' := (21, [some (vR 2), some (vI p)], [], LAY (u (u (u (shA A) 5 (wr (A 5) p (-1))) 6 (wr (A 6) p 1)) 7 (wr (A 7) p 0)) (shF F), 0, 0)) hc9 15 rfl ⟨⟨by omega, by omega⟩, ⟨⟨by omega, by omega⟩, by omega⟩, ⟨⟨by omega, by omega⟩, by omega⟩, trivial⟩ ?_
              refine R_retv hc9 rfl rfl ?_
              refine R_s (f' := (78, [some (vR 1), some (vI p), some (vI q), some (vI 1)], [], LAY (u (u (u (shA A) 5 (wr (A 5) p (-1))) 6 (wr (A 6) p 1)) 7 (wr (A 7) p 0)) (shF F), 0, 0)) hc62 0 rfl trivial ?_
              refine R_s (P := True) (f' := (96, [some (vR 1), some (vI p), some (vI q), some (vI 1)], [vI 1], LAY (u (u (u (shA A) 5 (wr (A 5) p (-1))) 6 (wr (A 6) p 1)) 7 (wr (A 7) p 0)) (shF F), 0, 0)) hc62 2 rfl trivial ?_
              refine R_reti hc62 rfl rfl ⟨⟨_, rfl⟩, ⟨_, _, rfl, rfl⟩, ?_⟩
              refine R_s (P := True) (f' := (2, [some (vR 88), some (vI p), some (vI q), none], [vI p, vR 88], LAY (u (u (u (shA A) 5 (wr (A 5) p (-1))) 6 (wr (A 6) p 1)) 7 (wr (A 7) p 0)) (shF F), 0, 0)) hc112 2 rfl trivial ?_
              refine R_cv hc112 rfl rfl ?_ (fun r G h => h)
              refine R_s (P := inI ((F 3) - 1) ∧ True) (f' := (8, [some (vR 88), some (vI p)], [vI ((F 3) - 1), vI 0, vI p], LAY (u (u (u (shA A) 5 (wr (A 5) p (-1))) 6 (wr (A 6) p 1)) 7 (wr (A 7) p 0)) (shF F), 0, 0)) hc106 6 rfl ⟨⟨by omega, by omega⟩, trivial⟩ ?_
              refine R_cs hc106 rfl rfl ?_ (fun r G h => h)
              refine R_s (P := True) (f' := (2, [some (vI p), some (vI 0), some (vI ((F 3) - 1))], [vI 0, vI p], LAY (u (u (u (shA A) 5 (wr (A 5) p (-1))) 6 (wr (A 6) p 1)) 7 (wr (A 7) p 0)) (shF F), 0, 0)) hc104 2 rfl trivial ?_
              refine R_ic (t := 14) hc104 rfl rfl (fun (z : p < 0) => absurd z (by omega)) (fun (_ : ¬ (p < 0)) => ?_)
              refine R_s (P := True) (f' := (7, [some (vI p), some (vI 0), some (vI ((F 3) - 1))], [vI ((F 3) - 1), vI p], LAY (u (u (u (shA A) 5 (wr (A 5) p (-1))) 6 (wr (A 6) p 1)) 7 (wr (A 7) p 0)) (shF F), 0, 0)) hc104 2 rfl trivial ?_
              refine R_ic (t := 14) hc104 rfl rfl (fun (z : (F 3) - 1 < p) => absurd z (by omega)) (fun (_ : ¬ ((F 3) - 1 < p)) => ?_)
              refine R_s (P := True) (f' := (15, [some (vI p), some (vI 0), some (vI ((F 3) - 1))], [vI 1], LAY (u (u (u (shA A) 5 (wr (A 5) p (-1))) 6 (wr (A 6) p 1)) 7 (wr (A 7) p 0)) (shF F), 0, 0)) hc104 2 rfl trivial ?_
              refine R_retz hc104 rfl rfl (Or.inr rfl) ?_
              refine R_s (f' := (11, [some (vR 88), some (vI p)], [vI 1], LAY (u (u (u (shA A) 5 (wr (A 5) p (-1))) 6 (wr (A 6) p 1)) 7 (wr (A 7) p 0)) (shF F), 0, 0)) hc106 0 rfl trivial ?_
              refine R_retz hc106 rfl rfl (Or.inr rfl) ?_
              refine R_s (f' := (5, [some (vR 88), some (vI p), some (vI q), none], [vI 1], LAY (u (u (u (shA A) 5 (wr (A 5) p (-1))) 6 (wr (A 6) p 1)) 7 (wr (A 7) p 0)) (shF F), 0, 0)) hc112 0 rfl trivial ?_
              refine R_if (t := 15) hc112 rfl rfl (fun (_ : ¬ 1 = 0) => ?_) (fun (z : ¬ (¬ 1 = 0)) => absurd (by decide) z)
              refine R_s (P := True) (f' := (18, [some (vR 88), some (vI p), some (vI q), none], [vI 1, vI 0, vI q], LAY (u (u (u (shA A) 5 (wr (A 5) p (-1))) 6 (wr (A 6) p 1)) 7 (wr (A 7) p 0)) (shF F), 0, 0)) hc112 3 rfl trivial ?_
              refine R_cs hc112 rfl rfl ?_ (fun r G h => h)
              refine R_s (P := True) (f' := (2, [some (vI q), some (vI 0), some (vI 1)], [vI 0, vI q], LAY (u (u (u (shA A) 5 (wr (A 5) p (-1))) 6 (wr (A 6) p 1)) 7 (wr (A 7) p 0)) (shF F), 0, 0)) hc104 2 rfl trivial ?_
              refine R_ic (t := 14) hc104 rfl rfl (fun (z : q < 0) => absurd z (by omega)) (fun (_ : ¬ (q < 0)) => ?_)
              refine R_s (P := True) (f' := (7, [some (vI q), some (vI 0), some (vI 1)], [vI 1, vI q], LAY (u (u (u (shA A) 5 (wr (A 5) p (-1))) 6 (wr (A 6) p 1)) 7 (wr (A 7) p 0)) (shF F), 0, 0)) hc104 2 rfl trivial ?_
              refine R_ic (t := 14) hc104 rfl rfl (fun (z : 1 < q) => absurd z (by omega)) (fun (_ : ¬ (1 < q)) => ?_)
              refine R_s (P := True) (f' := (15, [some (vI q), some (vI 0), some (vI 1)], [vI 1], LAY (u (u (u (shA A) 5 (wr (A 5) p (-1))) 6 (wr (A 6) p 1)) 7 (wr (A 7) p 0)) (shF F), 0, 0)) hc104 2 rfl trivial ?_
              refine R_retz hc104 rfl rfl (Or.inr rfl) ?_
              refine R_s (f' := (21, [some (vR 88), some (vI p), some (vI q), none], [vI 1], LAY (u (u (u (shA A) 5 (wr (A 5) p (-1))) 6 (wr (A 6) p 1)) 7 (wr (A 7) p 0)) (shF F), 0, 0)) hc112 0 rfl trivial ?_
              refine R_if (t := 31) hc112 rfl rfl (fun (_ : ¬ 1 = 0) => ?_) (fun (z : ¬ (¬ 1 = 0)) => absurd (by decide) z)
              refine R_s (P := (0 ≤ p ∧ p < ((A 6).length : Int)) ∧ True) (f' := (37, [some (vR 88), some (vI p), some (vI q), none], [vI (rd (A 6) p)], LAY (u (u (u (shA A) 5 (wr (A 5) p (-1))) 6 (wr (A 6) p 1)) 7 (wr (A 7) p 0)) (shF F), 0, 0)) hc112 4 rfl ⟨⟨by omega, by omega⟩, trivial⟩ ?_
              refine R_if (t := 44) hc112 rfl rfl (fun (z : rd (A 6) p = 0) => absurd z (by omega)) (fun (_ : ¬ (rd (A 6) p = 0)) => ?_)
              refine R_s (P := True) (f' := (48, [some (vR 88), some (vI p), some (vI q), some (vI 1)], [vI 1, vI q], LAY (u (u (u (shA A) 5 (wr (A 5) p (-1))) 6 (wr (A 6) p 1)) 7 (wr (A 7) p 0)) (shF F), 0, 0)) hc112 5 rfl trivial ?_
              refine R_ic (t := 68) hc112 rfl rfl (fun (z : ¬ q = 1) => absurd z (by omega)) (fun (_ : ¬ (¬ q = 1)) => ?_)
              refine R_s (P := True) (f' := (52, [some (vR 88), some (vI p), some (vI q), some (vI 1)], [vR 88], LAY (u (u (u (shA A) 5 (wr (A 5) p (-1))) 6 (wr (A 6) p 1)) 7 (wr (A 7) p 0)) (shF F), 0, 0)) hc112 1 rfl trivial ?_
              refine R_cv hc112 rfl rfl (l_unknowns (A := (u (u (u (shA A) 5 (wr (A 5) p (-1))) 6 (wr (A 6) p 1)) 7 (wr (A 7) p 0))) (F := (shF F)) (LENS_u (LENS_u (LENS_u (LENS_sh hL) (by show (wr (A 5) p (-1)).length = (A 5).length; simp only [wr_len])) (by show (wr (A 6) p 1).length = (A 6).length; simp only [wr_len])) (by show (wr (A 7) p 0).length = (A 7).length; simp only [wr_len])) ⟨p1, p2⟩) (fun r G9 hp9 => ?_)
              obtain ⟨e1, rfl⟩ := hp9
              have e2 : r = some (vI un) := by rw [hun]; exact e1
              clear e1
              subst e2
              refine R_s (f' := (55, [some (vR 88), some (vI p), some (vI q), some (vI 1)], [vI un], LAY (u (u (u (shA A) 5 (wr (A 5) p (-1))) 6 (wr (A 6) p 1)) 7 (wr (A 7) p 0)) (shF F), 0, 0)) hc112 0 rfl trivial ?_
              refine R_s (P := inI (un - 1) ∧ True) (f' := (58, [some (vR 88), some (vI p), some (vI q), some (vI 1)], [vI 5, vI (un - 1)], LAY (u (u (u (shA A) 5 (wr (A 5) p (-1))) 6 (wr (A 6) p 1)) 7 (wr (A 7) p 0)) (shF F), 0, 0)) hc112 3 rfl ⟨⟨by omega, by omega⟩, trivial⟩ ?_
              refine R_ic (t := 68) hc112 rfl rfl (fun (_ : un - 1 < 5) => ?_) (fun (z : ¬ (un - 1 < 5)) => absurd (show un - 1 < 5 by omega) z)
              refine R_s (P := True) (f' := (70, [some (vR 88), some (vI p), some (vI q), some (vI 1)], [vI 1, vI q], LAY (u (u (u (shA A) 5 (wr (A 5) p (-1))) 6 (wr (A 6) p 1)) 7 (wr (A 7) p 0)) (shF F), 0, 0)) hc112 2 rfl trivial ?_
              refine R_ic (t := 78) hc112 rfl rfl (fun (_ : q = 1) => ?_) (fun (z : ¬ (q = 1)) => absurd (show q = 1 by omega) z)
              refine R_s (P := (0 ≤ p ∧ p < ((A 5).length : Int)) ∧ True) (f' := (92, [some (vR 88), some (vI p), some (vI q), some (vI 1)], [vI 1, vI q, vI p, vR 93], LAY (u (u (u (u (shA A) 5 (wr (A 5) p (-1))) 6 (wr (A 6) p 1)) 7 (wr (A 7) p 0)) 92 (wr (A 5) p (-1))) (shF F), 0, 0)) hc112 10 rfl ⟨⟨by omega, by omega⟩, trivial⟩ ?_
              refine R_ic (t := 99) hc112 rfl rfl (fun (z : ¬ q = 1) => absurd z (by omega)) (fun (_ : ¬ (¬ q = 1)) => ?_)
              refine R_s (P := ((0 ≤ p ∧ p < ((A 6).length : Int)) ∧ (1 = 0 ∨ 1 = 1)) ∧ ((0 ≤ p ∧ p < ((A 94).length : Int)) ∧ (0 = 0 ∨ 0 = 1)) ∧ True) (f' := (109, [some (vR 88), some (vI p), some (vI q), some (vI 1)], [vI 1], LAY (u (u (u (u (u (u (shA A) 5 (wr (A 5) p (-1))) 6 (wr (A 6) p 1)) 7 (wr (A 7) p 0)) 92 (wr (A 5) p (-1))) 93 (wr (A 6) p 1)) 94 (wr (A 94) p 0)) (shF F), 0, 0)) hc112 9 rfl ⟨⟨⟨by omega, by omega⟩, by omega⟩, ⟨⟨by omega, by omega⟩, by omega⟩, trivial⟩ ?_
              refine R_reti hc112 rfl rfl ?_
              first
                | (exfalso; omega; done)
                | exact ⟨rfl, (u (u (u (u A 5 (wr (A 5) p (-1))) 6 (wr (A 6) p 1)) 7 (wr (A 7) p 0)) 94 (wr (A 94) p 0)), F, rfl, rfl, ⟨(LENS_u (LENS_u (LENS_u (LENS_u hL (by show (wr (A 5) p (-1)).length = (A 5).length; simp only [wr_len])) (by show (wr (A 6) p 1).length = (A 6).length; simp only [wr_len])) (by show (wr (A 7) p 0).length = (A 7).length; simp only [wr_len])) (by show (wr (A 94) p 0).length = (A 94).length; simp only [wr_len])), (PERS_unk hR0.2.1 (hL 5 (by decide)) (hL 6 (by decide)) (hL 7 (by decide)) (hL 94 (by decide)) (p := p) (v := 1) ⟨by omega, by omega⟩ (by decide) (D' := wr (A 5) p (-1)) (.inr rfl) (T' := wr (A 7) p 0) (.inr rfl) (fun _ => rfl) (by rw [cw (by omega) (by omega)]; (repeat' split) <;> omega)), hR0.2.2.1, hR0.2.2.2.1, hR0.2.2.2.2.1, hR0.2.2.2.2.2.1, hR0.2.2.2.2.2.2.1, hR0.2.2.2.2.2.2.2.1, hR0.2.2.2.2.2.2.2.2.1, (REFU_c hR0.2.2.2.2.2.2.2.2.2)⟩⟩
                | (have e9 : wr (A 6) p 0 = A 6 := (by have h0 : rd (A 6) p = 0 := (by omega); have h1 := wr_rd (l := A 6) (i := p) (by omega) (by omega); rw [h0] at h1; exact h1); exact ⟨rfl, (u (u (u (u A 5 (wr (A 5) p (-1))) 6 (wr (A 6) p 1)) 7 (wr (A 7) p 0)) 94 (wr (A 94) p 0)), F, (by rw [e9]; rfl), rfl, ⟨(LENS_u (LENS_u (LENS_u (LENS_u hL (by show (wr (A 5) p (-1)).length = (A 5).length; simp only [wr_len])) (by show (wr (A 6) p 1).length = (A 6).length; simp only [wr_len])) (by show (wr (A 7) p 0).length = (A 7).length; simp only [wr_len])) (by show (wr (A 94) p 0).length = (A 94).length; simp only [wr_len])), (PERS_unk hR0.2.1 (hL 5 (by decide)) (hL 6 (by decide)) (hL 7 (by decide)) (hL 94 (by decide)) (p := p) (v := 1) ⟨by omega, by omega⟩ (by decide) (D' := wr (A 5) p (-1)) (.inr rfl) (T' := wr (A 7) p 0) (.inr rfl) (fun _ => rfl) (by rw [cw (by omega) (by omega)]; (repeat' split) <;> omega)), hR0.2.2.1, hR0.2.2.2.1, hR0.2.2.2.2.1, hR0.2.2.2.2.2.1, hR0.2.2.2.2.2.2.1, hR0.2.2.2.2.2.2.2.1, hR0.2.2.2.2.2.2.2.2.1, (REFU_c hR0.2.2.2.2.2.2.2.2.2)⟩⟩)
            · refine R_s (P := True) (f' := (66, [some (vR 1), some (vI p), some (vI q), some (vI 1)], [vI (-8), vR 1], LAY (shA A) (shF F), 0, 0)) hc62 2 rfl trivial ?_
              refine R_cv hc62 rfl rfl ?_ (fun r G h => h)
              refine R_s (P := True) (f' := (3, [some (vR 1), some (vI (-8))], [vI (-2), vI (-8)], LAY (shA A) (shF F), 0, 0)) hc93 2 rfl trivial ?_
              refine R_ic (t := 23) hc93 rfl rfl (fun (z : (-2) < (-8)) => absurd z (by decide)) (fun (_ : ¬ ((-2) < (-8))) => ?_)
              refine R_s (P := True) (f' := (9, [some (vR 1), some (vI (-8))], [vI (-8), vI (-8)], LAY (shA A) (shF F), 0, 0)) hc93 2 rfl trivial ?_
              refine R_ic (t := 23) hc93 rfl rfl (fun (z : (-8) < (-8)) => absurd z (by decide)) (fun (_ : ¬ ((-8) < (-8))) => ?_)
              refine R_s (P := inI 8 ∧ (0 ≤ 8 ∧ 8 < ((A 87).length : Int)) ∧ inI ((rd (A 87) 8) + 1) ∧ (0 ≤ 8 ∧ 8 < ((A 87).length : Int)) ∧ True) (f' := (24, [some (vR 1), some (vI (-8))], [vI (-8)], LAY (u (shA A) 87 (wr (A 87) 8 ((rd (A 87) 8) + 1))) (shF F), 0, 0)) hc93 10 rfl ⟨⟨by omega, by omega⟩, ⟨by omega, by omega⟩, ⟨by omega, by omega⟩, ⟨by omega, by omega⟩, trivial⟩ ?_
              refine R_reti hc93 rfl rfl ?_
              refine R_s (f' := (69, [some (vR 1), some (vI p), some (vI q), some (vI 1)], [vI (-8)], LAY (u (shA A) 87 (wr (A 87) 8 ((rd (A 87) 8) + 1))) (shF F), 0, 0)) hc62 0 rfl trivial ?_
              refine R_reti hc62 rfl rfl ⟨⟨_, rfl⟩, ⟨_, _, rfl, rfl⟩, ?_⟩
              refine R_s (P := True) (f' := (2, [some (vR 88), some (vI p), some (vI q), none], [vI p, vR 88], LAY (u (shA A) 87 (wr (A 87) 8 ((rd (A 87) 8) + 1))) (shF F), 0, 0)) hc112 2 rfl trivial ?_
              refine R_cv hc112 rfl rfl ?_ (fun r G h => h)
              refine R_s (P := inI ((F 3) - 1) ∧ True) (f' := (8, [some (vR 88), some (vI p)], [vI ((F 3) - 1), vI 0, vI p], LAY (u (shA A) 87 (wr (A 87) 8 ((rd (A 87) 8) + 1))) (shF F), 0, 0)) hc106 6 rfl ⟨⟨by omega, by omega⟩, trivial⟩ ?_
              refine R_cs hc106 rfl rfl ?_ (fun r G h => h)
              refine R_s (P := True) (f' := (2, [some (vI p), some (vI 0), some (vI ((F 3) - 1))], [vI 0, vI p], LAY (u (shA A) 87 (wr (A 87) 8 ((rd (A 87) 8) + 1))) (shF F), 0, 0)) hc104 2 rfl trivial ?_
              refine R_ic (t := 14) hc104 rfl rfl (fun (z : p < 0) => absurd z (by omega)) (fun (_ : ¬ (p < 0)) => ?_)
              refine R_s (P := True) (f' := (7, [some (vI p), some (vI 0), some (vI ((F 3) - 1))], [vI ((F 3) - 1), vI p], LAY (u (shA A) 87 (wr (A 87) 8 ((rd (A 87) 8) + 1))) (shF F), 0, 0)) hc104 2 rfl trivial ?_
              refine R_ic (t := 14) hc104 rfl rfl (fun (z : (F 3) - 1 < p) => absurd z (by omega)) (fun (_ : ¬ ((F 3) - 1 < p)) => ?_)
              refine R_s (P := True) (f' := (15, [some (vI p), some (vI 0), some (vI ((F 3) - 1))], [vI 1], LAY (u (shA A) 87 (wr (A 87) 8 ((rd (A 87) 8) + 1))) (shF F), 0, 0)) hc104 2 rfl trivial ?_
              refine R_retz hc104 rfl rfl (Or.inr rfl) ?_
              refine R_s (f' := (11, [some (vR 88), some (vI p)], [vI 1], LAY (u (shA A) 87 (wr (A 87) 8 ((rd (A 87) 8) + 1))) (shF F), 0, 0)) hc106 0 rfl trivial ?_
              refine R_retz hc106 rfl rfl (Or.inr rfl) ?_
              refine R_s (f' := (5, [some (vR 88), some (vI p), some (vI q), none], [vI 1], LAY (u (shA A) 87 (wr (A 87) 8 ((rd (A 87) 8) + 1))) (shF F), 0, 0)) hc112 0 rfl trivial ?_
              refine R_if (t := 15) hc112 rfl rfl (fun (_ : ¬ 1 = 0) => ?_) (fun (z : ¬ (¬ 1 = 0)) => absurd (by decide) z)
              refine R_s (P := True) (f' := (18, [some (vR 88), some (vI p), some (vI q), none], [vI 1, vI 0, vI q], LAY (u (shA A) 87 (wr (A 87) 8 ((rd (A 87) 8) + 1))) (shF F), 0, 0)) hc112 3 rfl trivial ?_
              refine R_cs hc112 rfl rfl ?_ (fun r G h => h)
              refine R_s (P := True) (f' := (2, [some (vI q), some (vI 0), some (vI 1)], [vI 0, vI q], LAY (u (shA A) 87 (wr (A 87) 8 ((rd (A 87) 8) + 1))) (shF F), 0, 0)) hc104 2 rfl trivial ?_
              refine R_ic (t := 14) hc104 rfl rfl (fun (z : q < 0) => absurd z (by omega)) (fun (_ : ¬ (q < 0)) => ?_)
              refine R_s (P := True) (f' := (7, [some (vI q), some (vI 0), some (vI 1)], [vI 1, vI q], LAY (u (shA A) 87 (wr (A 87) 8 ((rd (A 87) 8) + 1))) (shF F), 0, 0)) hc104 2 rfl trivial ?_
              refine R_ic (t := 14) hc104 rfl rfl (fun (z : 1 < q) => absurd z (by omega)) (fun (_ : ¬ (1 < q)) => ?_)
              refine R_s (P := True) (f' := (15, [some (vI q), some (vI 0), some (vI 1)], [vI 1], LAY (u (shA A) 87 (wr (A 87) 8 ((rd (A 87) 8) + 1))) (shF F), 0, 0)) hc104 2 rfl trivial ?_
              refine R_retz hc104 rfl rfl (Or.inr rfl) ?_
              refine R_s (f' := (21, [some (vR 88), some (vI p), some (vI q), none], [vI 1], LAY (u (shA A) 87 (wr (A 87) 8 ((rd (A 87) 8) + 1))) (shF F), 0, 0)) hc112 0 rfl trivial ?_
              refine R_if (t := 31) hc112 rfl rfl (fun (_ : ¬ 1 = 0) => ?_) (fun (z : ¬ (¬ 1 = 0)) => absurd (by decide) z)
              refine R_s (P := (0 ≤ p ∧ p < ((A 6).length : Int)) ∧ True) (f' := (37, [some (vR 88), some (vI p), some (vI q), none], [vI (rd (A 6) p)], LAY (u (shA A) 87 (wr (A 87) 8 ((rd (A 87) 8) + 1))) (shF F), 0, 0)) hc112 4 rfl ⟨⟨by omega, by omega⟩, trivial⟩ ?_
              refine R_if (t := 44) hc112 rfl rfl (fun (z : rd (A 6) p = 0) => absurd z (by omega)) (fun (_ : ¬ (rd (A 6) p = 0)) => ?_)
              refine R_s (P := True) (f' := (48, [some (vR 88), some (vI p), some (vI q), some (vI 1)], [vI 1, vI q], LAY (u (shA A) 87 (wr (A 87) 8 ((rd (A 87) 8) + 1))) (shF F), 0, 0)) hc112 5 rfl trivial ?_
              refine R_ic (t := 68) hc112 rfl rfl (fun (z : ¬ q = 1) => absurd z (by omega)) (fun (_ : ¬ (¬ q = 1)) => ?_)
              refine R_s (P := True) (f' := (52, [some (vR 88), some (vI p), some (vI q), some (vI 1)], [vR 88], LAY (u (shA A) 87 (wr (A 87) 8 ((rd (A 87) 8) + 1))) (shF F), 0, 0)) hc112 1 rfl trivial ?_
              refine R_cv hc112 rfl rfl (l_unknowns (A := (u (shA A) 87 (wr (A 87) 8 ((rd (A 87) 8) + 1)))) (F := (shF F)) (LENS_u (LENS_sh hL) (by show (wr (A 87) 8 ((rd (A 87) 8) + 1)).length = (A 87).length; simp only [wr_len])) ⟨p1, p2⟩) (fun r G9 hp9 => ?_)
              obtain ⟨e1, rfl⟩ := hp9
              have e2 : r = some (vI un) := by rw [hun]; exact e1
              clear e1
              subst e2
              refine R_s (f' := (55, [some (vR 88), some (vI p), some (vI q), some (vI 1)], [vI un], LAY (u (shA A) 87 (wr (A 87) 8 ((rd (A 87) 8) + 1))) (shF F), 0, 0)) hc112 0 rfl trivial ?_
              refine R_s (P := inI (un - 1) ∧ True) (f' := (58, [some (vR 88), some (vI p), some (vI q), some (vI 1)], [vI 5, vI (un - 1)], LAY (u (shA A) 87 (wr (A 87) 8 ((rd (A 87) 8) + 1))) (shF F), 0, 0)) hc112 3 rfl ⟨⟨by omega, by omega⟩, trivial⟩ ?_
              refine R_ic (t := 68) hc112 rfl rfl (fun (z : un - 1 < 5) => absurd z (by omega)) (fun (_ : ¬ (un - 1 < 5)) => ?_)
              refine R_s (P := True) (f' := (64, [some (vR 88), some (vI p), some (vI q), some (vI 1)], [vI (-8), vR 88], LAY (u (shA A) 87 (wr (A 87) 8 ((rd (A 87) 8) + 1))) (shF F), 0, 0)) hc112 2 rfl trivial ?_
              refine R_cv hc112 rfl rfl ?_ (fun r G h => h)
              refine R_s (P := inI 8 ∧ (0 ≤ 8 ∧ 8 < ((A 87).length : Int)) ∧ inI ((rd (A 87) 8) + 1) ∧ (0 ≤ 8 ∧ 8 < ((A 87).length : Int)) ∧ True) (f' := (12, [some (vR 88), some (vI (-8))], [vI (-8)], LAY (u (u (shA A) 87 (wr (A 87) 8 ((rd (A 87) 8) + 1))) 89 (wr (A 87) 8 ((rd (A 87) 8) + 1))) (shF F), 0, 0)) hc105 10 rfl ⟨⟨by omega, by omega⟩, ⟨by omega, by omega⟩, ⟨by omega, by omega⟩, ⟨by omega, by omega⟩, trivial⟩ ?_
              refine R_reti hc105 rfl rfl ?_
              refine R_s (f' := (67, [some (vR 88), some (vI p), some (vI q), some (vI 1)], [vI (-8)], LAY (u (u (shA A) 87 (wr (A 87) 8 ((rd (A 87) 8) + 1))) 89 (wr (A 87) 8 ((rd (A 87) 8) + 1))) (shF F), 0, 0)) hc112 0 rfl trivial ?_
              refine R_reti hc112 rfl rfl ?_
              first
                | (exfalso; omega; done)
                | exact ⟨rfl, (u A 87 (wr (A 87) 8 ((rd (A 87) 8) + 1))), F, rfl, rfl, REL_ref hR0 (by decide) (by decide)⟩
                | (have e9 : wr (A 6) p 0 = A 6 := (by have h0 : rd (A 6) p = 0 := (by omega); have h1 := wr_rd (l := A 6) (i := p) (by omega) (by omega); rw [h0] at h1; exact h1); exact ⟨rfl, (u A 87 (wr (A 87) 8 ((rd (A 87) 8) + 1))), F, (by rw [e9]; rfl), rfl, REL_ref hR0 (by decide) (by decide)⟩)

