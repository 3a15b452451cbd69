theorem op_left_0 {c : Int} {A : Nat → List Int} {F : Nat → Int} (hR : REL c A F) (hc : c < 1000000) (hd : (0 : Int) < F 0) : R 76 (0, L0 76 [vR 1, vI 0], [], LAY (shA A) (shF F), 0, 0) (fun r G => ∃ (x : Int) (A' : Nat → List Int) (F' : Nat → Int), REL (c + 1) A' F' ∧ r = some (vI x) ∧ G = LAY (shA A') (shF F') ∧ A' 0 = A 0 ∧ PST A F A' F' ∧ x = T_lo (F 3).toNat (F 2) (N_Y A F 0) (A 3) (A 4) (N_al A F) (N_Q A 21) (F 8).toNat) := by
  have hR0 := hR
  obtain ⟨hL, hPE, hTH, hTP, hDE, hLE, hNO, hAC, hRO, hRE⟩ := hR
  have h87 : (A 87).length = 9 := hL 87 (by decide)
  have r2 := REFU_at hRE (k := 2) (by decide) (by decide) hc
  have r3 := REFU_at hRE (k := 3) (by decide) (by decide) hc
  have r4 := REFU_at hRE (k := 4) (by decide) (by decide) hc
  have r5 := REFU_at hRE (k := 5) (by decide) (by decide) hc
  have r6 := REFU_at hRE (k := 6) (by decide) (by decide) hc
  have r7 := REFU_at hRE (k := 7) (by decide) (by decide) hc
  have r8 := REFU_at hRE (k := 8) (by decide) (by decide) hc
  obtain ⟨t1, t2, t3, t4, t5, t6⟩ := hTH
  obtain ⟨p1, p2, p3, p4, p5, p6⟩ := hPE
  have hD := D_at0 hR0 hd
  have he1 := hD.1.1
  have he2 := hD.1.2.1
  obtain ⟨so, te, tp, mg, pm, lo, hS⟩ := SPL_ex A F (N_al A F) (N_Q A 21) (F 8).toNat (N_Y A F 0)
  have hg := SPL_g (A := A) (F := F) (d := 0) hS
  have hlo : lo = T_lo (F 3).toNat (F 2) (N_Y A F 0) (A 3) (A 4) (N_al A F) (N_Q A 21) (F 8).toNat := by
    obtain ⟨s1, s2, s3, s4, -, -⟩ := hS
    rw [s4, s3, s2, s1]
    rfl
  refine R_s (P := True) (f' := (2, [some (vR 1), some (vI 0), none], [vI 0, vR 1], LAY (shA A) (shF F), 0, 0)) hc76 2 rfl trivial ?_
  refine R_cv hc76 rfl rfl ?_ (fun r G h => h)
  refine R_s (P := True) (f' := (2, [some (vR 1), some (vI 0)], [vI 0, vR 1], LAY (shA A) (shF F), 0, 0)) hc99 2 rfl trivial ?_
  refine R_cv hc99 rfl rfl ?_ (fun r G h => h)
  refine R_s (P := True) (f' := (1, [some (vR 1), some (vI 0)], [vI 0], LAY (shA A) (shF F), 0, 0)) hc98 1 rfl trivial ?_
  refine R_if (t := 16) hc98 rfl rfl (fun (z : 0 < 0) => absurd z (by decide)) (fun (_ : ¬ (0 < 0)) => ?_)
  refine R_s (P := True) (f' := (9, [some (vR 1), some (vI 0)], [vI (F 0), vI 0], LAY (shA A) (shF F), 0, 0)) hc98 3 rfl trivial ?_
  refine R_ic (t := 16) hc98 rfl rfl (fun (z : F 0 ≤ 0) => absurd z (by omega)) (fun (_ : ¬ (F 0 ≤ 0)) => ?_)
  refine R_s (P := True) (f' := (17, [some (vR 1), some (vI 0)], [vI 1], LAY (shA A) (shF F), 0, 0)) hc98 2 rfl trivial ?_
  refine R_retz hc98 rfl rfl (Or.inr rfl) ?_
  refine R_s (f' := (5, [some (vR 1), some (vI 0)], [vI 1], LAY (shA A) (shF F), 0, 0)) hc99 0 rfl trivial ?_
  refine R_if (t := 17) hc99 rfl rfl (fun (z : 1 = 0) => absurd z (by decide)) (fun (_ : ¬ (1 = 0)) => ?_)
  refine R_s (P := (0 ≤ (0 : Int) ∧ (0 : Int) < (([some 20, some 29, some 38, some 47, some 56, some 65] : List (Option Nat)).length : Int)) ∧ True) (f' := (18, [some (vR 1), some (vI 0)], [vR 20], LAY (shA A) (shF F), 0, 0)) hc99 5 rfl ⟨(by decide), trivial⟩ ?_
  refine R_reta hc99 rfl rfl ?_
  refine R_s (f' := (5, [some (vR 1), some (vI 0), none], [vR 20], LAY (shA A) (shF F), 0, 0)) hc76 0 rfl trivial ?_
  refine R_s (P := True) (f' := (20, [some (vR 1), some (vI 0), some (vR 20)], [vI 0, vR 20, vR 1], LAY (shA A) (shF F), 0, 0)) hc76 6 rfl trivial ?_
  refine R_cv hc76 rfl rfl (l_now0 hR0 hd hS) (fun r G9 hp9 => ?_)
  obtain ⟨rfl, l8, l9, l10, l11, l75, l76, l77, l78, rfl, k8, k9, k10, k11, k75, k76, k77, k78, v75, v76, v77⟩ := hp9
  refine R_s (f' := (23, [some (vR 1), some (vI 0), some (vR 20)], [], LAY (u (u (u (u (u (u (u (u (shA A) 8 l8) 9 l9) 10 l10) 11 l11) 75 l75) 76 l76) 77 l77) 78 l78) (u (u (shF F) 14 mg) 15 lo), 0, 0)) hc76 0 rfl trivial ?_
  refine R_s (P := True) (f' := (30, [some (vR 1), some (vI 0), some (vR 20)], [vI lo], LAY (u (u (u (u (u (u (u (u (shA A) 8 l8) 9 l9) 10 l10) 11 l11) 75 l75) 76 l76) 77 l77) 78 l78) (u (u (shF F) 14 mg) 15 lo), 0, 0)) hc76 3 rfl trivial ?_
  refine R_reti hc76 rfl rfl ?_
  first
    | (exfalso; omega; done)
    | exact ⟨lo, (u (u (u (u (u (u (u (u A 8 l8) 9 l9) 10 l10) 11 l11) 75 l75) 76 l76) 77 l77) 78 l78), (u (u F 14 mg) 15 lo), ⟨(LENS_u (LENS_u (LENS_u (LENS_u (LENS_u (LENS_u (LENS_u (LENS_u hL (by show (l8).length = (A 8).length; rw [k8, hL 8 (by decide)]; rfl)) (by show (l9).length = (A 9).length; rw [k9, hL 9 (by decide)]; rfl)) (by show (l10).length = (A 10).length; rw [k10, hL 10 (by decide)]; rfl)) (by show (l11).length = (A 11).length; rw [k11, hL 11 (by decide)]; rfl)) (by show (l75).length = (A 75).length; rw [k75, hL 75 (by decide)]; rfl)) (by show (l76).length = (A 76).length; rw [k76, hL 76 (by decide)]; rfl)) (by show (l77).length = (A 77).length; rw [k77, hL 77 (by decide)]; rfl)) (by show (l78).length = (A 78).length; rw [k78, hL 78 (by decide)]; rfl)), hR0.2.1, hR0.2.2.1, hR0.2.2.2.1, hR0.2.2.2.2.1, hR0.2.2.2.2.2.1, hR0.2.2.2.2.2.2.1, hR0.2.2.2.2.2.2.2.1, hR0.2.2.2.2.2.2.2.2.1, (REFU_c hR0.2.2.2.2.2.2.2.2.2)⟩, rfl, rfl, rfl, ⟨(by repeat (first | exact PST_0 | refine PST_A rfl ?_ | refine PST_F rfl ?_)), hlo⟩⟩

theorem op_gets_0 {c : Int} {A : Nat → List Int} {F : Nat → Int} (hR : REL c A F) (hc : c < 1000000) (i : Int) (i_i : inI i) (hd : (0 : Int) < F 0) : R 77 (0, L0 77 [vR 1, vI 0, vI i], [], LAY (shA A) (shF F), 0, 0) (fun r G => ∃ (x : Int) (A' : Nat → List Int) (F' : Nat → Int), REL (c + 1) A' F' ∧ r = some (vI x) ∧ G = LAY (shA A') (shF F') ∧ A' 0 = A 0 ∧ PST A F A' F' ∧ (0 ≤ i → i < F 8 → x = gE A F 0 i.toNat) ∧ (F 8 ≤ i → x = -3)) := by
  have hR0 := hR
  obtain ⟨hL, hPE, hTH, hTP, hDE, hLE, hNO, hAC, hRO, hRE⟩ := hR
  have j_i := i_i
  unfold inI at j_i
  have h87 : (A 87).length = 9 := hL 87 (by decide)
  have r2 := REFU_at hRE (k := 2) (by decide) (by decide) hc
  have r3 := REFU_at hRE (k := 3) (by decide) (by decide) hc
  have r4 := REFU_at hRE (k := 4) (by decide) (by decide) hc
  have r5 := REFU_at hRE (k := 5) (by decide) (by decide) hc
  have r6 := REFU_at hRE (k := 6) (by decide) (by decide) hc
  have r7 := REFU_at hRE (k := 7) (by decide) (by decide) hc
  have r8 := REFU_at hRE (k := 8) (by decide) (by decide) hc
  obtain ⟨t1, t2, t3, t4, t5, t6⟩ := hTH
  obtain ⟨p1, p2, p3, p4, p5, p6⟩ := hPE
  have hD := D_at0 hR0 hd
  have he1 := hD.1.1
  have he2 := hD.1.2.1
  obtain ⟨so, te, tp, mg, pm, lo, hS⟩ := SPL_ex A F (N_al A F) (N_Q A 21) (F 8).toNat (N_Y A F 0)
  have hg := SPL_g (A := A) (F := F) (d := 0) hS
  have hlo : lo = T_lo (F 3).toNat (F 2) (N_Y A F 0) (A 3) (A 4) (N_al A F) (N_Q A 21) (F 8).toNat := by
    obtain ⟨s1, s2, s3, s4, -, -⟩ := hS
    rw [s4, s3, s2, s1]
    rfl
  refine R_s (P := True) (f' := (2, [some (vR 1), some (vI 0), some (vI i), none], [vI 0, vR 1], LAY (shA A) (shF F), 0, 0)) hc77 2 rfl trivial ?_
  refine R_cv hc77 rfl rfl ?_ (fun r G h => h)
  refine R_s (P := True) (f' := (2, [some (vR 1), some (vI 0)], [vI 0, vR 1], LAY (shA A) (shF F), 0, 0)) hc99 2 rfl trivial ?_
  refine R_cv hc99 rfl rfl ?_ (fun r G h => h)
  refine R_s (P := True) (f' := (1, [some (vR 1), some (vI 0)], [vI 0], LAY (shA A) (shF F), 0, 0)) hc98 1 rfl trivial ?_
  refine R_if (t := 16) hc98 rfl rfl (fun (z : 0 < 0) => absurd z (by decide)) (fun (_ : ¬ (0 < 0)) => ?_)
  refine R_s (P := True) (f' := (9, [some (vR 1), some (vI 0)], [vI (F 0), vI 0], LAY (shA A) (shF F), 0, 0)) hc98 3 rfl trivial ?_
  refine R_ic (t := 16) hc98 rfl rfl (fun (z : F 0 ≤ 0) => absurd z (by omega)) (fun (_ : ¬ (F 0 ≤ 0)) => ?_)
  refine R_s (P := True) (f' := (17, [some (vR 1), some (vI 0)], [vI 1], LAY (shA A) (shF F), 0, 0)) hc98 2 rfl trivial ?_
  refine R_retz hc98 rfl rfl (Or.inr rfl) ?_
  refine R_s (f' := (5, [some (vR 1), some (vI 0)], [vI 1], LAY (shA A) (shF F), 0, 0)) hc99 0 rfl trivial ?_
  refine R_if (t := 17) hc99 rfl rfl (fun (z : 1 = 0) => absurd z (by decide)) (fun (_ : ¬ (1 = 0)) => ?_)
  refine R_s (P := (0 ≤ (0 : Int) ∧ (0 : Int) < (([some 20, some 29, some 38, some 47, some 56, some 65] : List (Option Nat)).length : Int)) ∧ True) (f' := (18, [some (vR 1), some (vI 0)], [vR 20], LAY (shA A) (shF F), 0, 0)) hc99 5 rfl ⟨(by decide), trivial⟩ ?_
  refine R_reta hc99 rfl rfl ?_
  refine R_s (f' := (5, [some (vR 1), some (vI 0), some (vI i), none], [vR 20], LAY (shA A) (shF F), 0, 0)) hc77 0 rfl trivial ?_
  refine R_s (P := True) (f' := (12, [some (vR 1), some (vI 0), some (vI i), some (vR 20)], [vI i, vR 20], LAY (shA A) (shF F), 0, 0)) hc77 5 rfl trivial ?_
  refine R_cv hc77 rfl rfl ?_ (fun r G h => h)
  refine R_s (P := True) (f' := (1, [some (vR 20), some (vI i)], [vI i], LAY (shA A) (shF F), 0, 0)) hc1 1 rfl trivial ?_
  refine R_if (t := 16) hc1 rfl rfl (fun (c4 : i < 0) => ?_) (fun (c4 : ¬ (i < 0)) => ?_)
  · refine R_s (P := True) (f' := (17, [some (vR 20), some (vI i)], [vI 0], LAY (shA A) (shF F), 0, 0)) hc1 1 rfl trivial ?_
    refine R_retz hc1 rfl rfl (Or.inl rfl) ?_
    refine R_s (f' := (15, [some (vR 1), some (vI 0), some (vI i), some (vR 20)], [vI 0], LAY (shA A) (shF F), 0, 0)) hc77 0 rfl trivial ?_
    refine R_if (t := 25) hc77 rfl rfl (fun (z : ¬ 0 = 0) => absurd z (by decide)) (fun (_ : ¬ (¬ 0 = 0)) => ?_)
    refine R_s (P := True) (f' := (21, [some (vR 1), some (vI 0), some (vI i), some (vR 20)], [vI (-3), vR 1], LAY (shA A) (shF F), 0, 0)) hc77 2 rfl trivial ?_
    refine R_cv hc77 rfl rfl ?_ (fun r G h => h)
    refine R_s (P := True) (f' := (3, [some (vR 1), some (vI (-3))], [vI (-2), vI (-3)], LAY (shA A) (shF F), 0, 0)) hc93 2 rfl trivial ?_
    refine R_ic (t := 23) hc93 rfl rfl (fun (z : (-2) < (-3)) => absurd z (by decide)) (fun (_ : ¬ ((-2) < (-3))) => ?_)
    refine R_s (P := True) (f' := (9, [some (vR 1), some (vI (-3))], [vI (-8), vI (-3)], LAY (shA A) (shF F), 0, 0)) hc93 2 rfl trivial ?_
    refine R_ic (t := 23) hc93 rfl rfl (fun (z : (-3) < (-8)) => absurd z (by decide)) (fun (_ : ¬ ((-3) < (-8))) => ?_)
    refine R_s (P := inI 3 ∧ (0 ≤ 3 ∧ 3 < ((A 87).length : Int)) ∧ inI ((rd (A 87) 3) + 1) ∧ (0 ≤ 3 ∧ 3 < ((A 87).length : Int)) ∧ True) (f' := (24, [some (vR 1), some (vI (-3))], [vI (-3)], LAY (u (shA A) 87 (wr (A 87) 3 ((rd (A 87) 3) + 1))) (shF F), 0, 0)) hc93 10 rfl ⟨⟨by omega, by omega⟩, ⟨by omega, by omega⟩, ⟨by omega, by omega⟩, ⟨by omega, by omega⟩, trivial⟩ ?_
    refine R_reti hc93 rfl rfl ?_
    refine R_s (f' := (24, [some (vR 1), some (vI 0), some (vI i), some (vR 20)], [vI (-3)], LAY (u (shA A) 87 (wr (A 87) 3 ((rd (A 87) 3) + 1))) (shF F), 0, 0)) hc77 0 rfl trivial ?_
    refine R_reti hc77 rfl rfl ?_
    first
      | (exfalso; omega; done)
      | exact ⟨(-3), (u A 87 (wr (A 87) 3 ((rd (A 87) 3) + 1))), F, REL_ref hR0 (by decide) (by decide), rfl, rfl, rfl, ⟨(by repeat (first | exact PST_0 | refine PST_A rfl ?_ | refine PST_F rfl ?_)), fun q1 q2 => by exfalso; omega, fun q1 => by omega⟩⟩
  · refine R_s (P := True) (f' := (9, [some (vR 20), some (vI i)], [vI (F 8), vI i], LAY (shA A) (shF F), 0, 0)) hc1 3 rfl trivial ?_
    refine R_ic (t := 16) hc1 rfl rfl (fun (c5 : F 8 ≤ i) => ?_) (fun (c5 : ¬ (F 8 ≤ i)) => ?_)
    · refine R_s (P := True) (f' := (17, [some (vR 20), some (vI i)], [vI 0], LAY (shA A) (shF F), 0, 0)) hc1 1 rfl trivial ?_
      refine R_retz hc1 rfl rfl (Or.inl rfl) ?_
      refine R_s (f' := (15, [some (vR 1), some (vI 0), some (vI i), some (vR 20)], [vI 0], LAY (shA A) (shF F), 0, 0)) hc77 0 rfl trivial ?_
      refine R_if (t := 25) hc77 rfl rfl (fun (z : ¬ 0 = 0) => absurd z (by decide)) (fun (_ : ¬ (¬ 0 = 0)) => ?_)
      refine R_s (P := True) (f' := (21, [some (vR 1), some (vI 0), some (vI i), some (vR 20)], [vI (-3), vR 1], LAY (shA A) (shF F), 0, 0)) hc77 2 rfl trivial ?_
      refine R_cv hc77 rfl rfl ?_ (fun r G h => h)
      refine R_s (P := True) (f' := (3, [some (vR 1), some (vI (-3))], [vI (-2), vI (-3)], LAY (shA A) (shF F), 0, 0)) hc93 2 rfl trivial ?_
      refine R_ic (t := 23) hc93 rfl rfl (fun (z : (-2) < (-3)) => absurd z (by decide)) (fun (_ : ¬ ((-2) < (-3))) => ?_)
      refine R_s (P := True) (f' := (9, [some (vR 1), some (vI (-3))], [vI (-8), vI (-3)], LAY (shA A) (shF F), 0, 0)) hc93 2 rfl trivial ?_
      refine R_ic (t := 23) hc93 rfl rfl (fun (z : (-3) < (-8)) => absurd z (by decide)) (fun (_ : ¬ ((-3) < (-8))) => ?_)
      refine R_s (P := inI 3 ∧ (0 ≤ 3 ∧ 3 < ((A 87).length : Int)) ∧ inI ((rd (A 87) 3) + 1) ∧ (0 ≤ 3 ∧ 3 < ((A 87).length : Int)) ∧ True) (f' := (24, [some (vR 1), some (vI (-3))], [vI (-3)], LAY (u (shA A) 87 (wr (A 87) 3 ((rd (A 87) 3) + 1))) (shF F), 0, 0)) hc93 10 rfl ⟨⟨by omega, by omega⟩, ⟨by omega, by omega⟩, ⟨by omega, by omega⟩, ⟨by omega, by omega⟩, trivial⟩ ?_
      refine R_reti hc93 rfl rfl ?_
      refine R_s (f' := (24, [some (vR 1), some (vI 0), some (vI i), some (vR 20)], [vI (-3)], LAY (u (shA A) 87 (wr (A 87) 3 ((rd (A 87) 3) + 1))) (shF F), 0, 0)) hc77 0 rfl trivial ?_
      refine R_reti hc77 rfl rfl ?_
      first
        | (exfalso; omega; done)
        | exact ⟨(-3), (u A 87 (wr (A 87) 3 ((rd (A 87) 3) + 1))), F, REL_ref hR0 (by decide) (by decide), rfl, rfl, rfl, ⟨(by repeat (first | exact PST_0 | refine PST_A rfl ?_ | refine PST_F rfl ?_)), fun q1 q2 => by exfalso; omega, fun q1 => by omega⟩⟩
    · refine R_s (P := True) (f' := (17, [some (vR 20), some (vI i)], [vI 1], LAY (shA A) (shF F), 0, 0)) hc1 2 rfl trivial ?_
      refine R_retz hc1 rfl rfl (Or.inr rfl) ?_
      refine R_s (f' := (15, [some (vR 1), some (vI 0), some (vI i), some (vR 20)], [vI 1], LAY (shA A) (shF F), 0, 0)) hc77 0 rfl trivial ?_
      refine R_if (t := 25) hc77 rfl rfl (fun (_ : ¬ 1 = 0) => ?_) (fun (z : ¬ (¬ 1 = 0)) => absurd (by decide) z)
      refine R_s (P := True) (f' := (28, [some (vR 1), some (vI 0), some (vI i), some (vR 20)], [vI 0, vR 20, vR 1], LAY (shA A) (shF F), 0, 0)) hc77 3 rfl trivial ?_
      refine R_cv hc77 rfl rfl (l_now0 hR0 hd hS) (fun r G9 hp9 => ?_)
      obtain ⟨rfl, l8, l9, l10, l11, l75, l76, l77, l78, rfl, k8, k9, k10, k11, k75, k76, k77, k78, v75, v76, v77⟩ := hp9
      have y76 : 0 ≤ i → i < F 8 → rd l76 i = te (i).toNat := fun q1 q2 => by
        have z := v76 (i).toNat (by omega)
        rw [show ((((i).toNat : Nat)) : Int) = i by omega] at z
        exact z
      refine R_s (f' := (31, [some (vR 1), some (vI 0), some (vI i), some (vR 20)], [], LAY (u (u (u (u (u (u (u (u (shA A) 8 l8) 9 l9) 10 l10) 11 l11) 75 l75) 76 l76) 77 l77) 78 l78) (u (u (shF F) 14 mg) 15 lo), 0, 0)) hc77 0 rfl trivial ?_
      refine R_s (P := (0 ≤ i ∧ i < ((l76).length : Int)) ∧ True) (f' := (40, [some (vR 1), some (vI 0), some (vI i), some (vR 20)], [vI (rd l76 i)], LAY (u (u (u (u (u (u (u (u (shA A) 8 l8) 9 l9) 10 l10) 11 l11) 75 l75) 76 l76) 77 l77) 78 l78) (u (u (shF F) 14 mg) 15 lo), 0, 0)) hc77 5 rfl ⟨⟨by omega, by omega⟩, trivial⟩ ?_
      refine R_reti hc77 rfl rfl ?_
      first
        | (exfalso; omega; done)
        | exact ⟨rd l76 i, (u (u (u (u (u (u (u (u A 8 l8) 9 l9) 10 l10) 11 l11) 75 l75) 76 l76) 77 l77) 78 l78), (u (u F 14 mg) 15 lo), ⟨(LENS_u (LENS_u (LENS_u (LENS_u (LENS_u (LENS_u (LENS_u (LENS_u hL (by show (l8).length = (A 8).length; rw [k8, hL 8 (by decide)]; rfl)) (by show (l9).length = (A 9).length; rw [k9, hL 9 (by decide)]; rfl)) (by show (l10).length = (A 10).length; rw [k10, hL 10 (by decide)]; rfl)) (by show (l11).length = (A 11).length; rw [k11, hL 11 (by decide)]; rfl)) (by show (l75).length = (A 75).length; rw [k75, hL 75 (by decide)]; rfl)) (by show (l76).length = (A 76).length; rw [k76, hL 76 (by decide)]; rfl)) (by show (l77).length = (A 77).length; rw [k77, hL 77 (by decide)]; rfl)) (by show (l78).length = (A 78).length; rw [k78, hL 78 (by decide)]; rfl)), hR0.2.1, hR0.2.2.1, hR0.2.2.2.1, hR0.2.2.2.2.1, hR0.2.2.2.2.2.1, hR0.2.2.2.2.2.2.1, hR0.2.2.2.2.2.2.2.1, hR0.2.2.2.2.2.2.2.2.1, (REFU_c hR0.2.2.2.2.2.2.2.2.2)⟩, rfl, rfl, rfl, ⟨(by repeat (first | exact PST_0 | refine PST_A rfl ?_ | refine PST_F rfl ?_)), fun q1 q2 => by rw [y76 q1 q2]; exact hg.2 _, fun q1 => by exfalso; omega⟩⟩

theorem op_due_0 {c : Int} {A : Nat → List Int} {F : Nat → Int} (hR : REL c A F) (hc : c < 1000000) (p : Int) (i_p : inI p) (hd : (0 : Int) < F 0) : R 78 (0, L0 78 [vR 1, vI 0, vI p], [], LAY (shA A) (shF F), 0, 0) (fun r G => ∃ (x : Int) (A' : Nat → List Int) (F' : Nat → Int), REL (c + 1) A' F' ∧ r = some (vI x) ∧ G = LAY (shA A') (shF F') ∧ A' 0 = A 0 ∧ PST A F A' F' ∧ (0 ≤ p → p < F 3 → x = gP A F 0 p.toNat)) := by
  have hR0 := hR
  obtain ⟨hL, hPE, hTH, hTP, hDE, hLE, hNO, hAC, hRO, hRE⟩ := hR
  have j_p := i_p
  unfold inI at j_p
  have h87 : (A 87).length = 9 := hL 87 (by decide)
  have r2 := REFU_at hRE (k := 2) (by decide) (by decide) hc
  have r3 := REFU_at hRE (k := 3) (by decide) (by decide) hc
  have r4 := REFU_at hRE (k := 4) (by decide) (by decide) hc
  have r5 := REFU_at hRE (k := 5) (by decide) (by decide) hc
  have r6 := REFU_at hRE (k := 6) (by decide) (by decide) hc
  have r7 := REFU_at hRE (k := 7) (by decide) (by decide) hc
  have r8 := REFU_at hRE (k := 8) (by decide) (by decide) hc
  obtain ⟨t1, t2, t3, t4, t5, t6⟩ := hTH
  obtain ⟨p1, p2, p3, p4, p5, p6⟩ := hPE
  have hD := D_at0 hR0 hd
  have he1 := hD.1.1
  have he2 := hD.1.2.1
  obtain ⟨so, te, tp, mg, pm, lo, hS⟩ := SPL_ex A F (N_al A F) (N_Q A 21) (F 8).toNat (N_Y A F 0)
  have hg := SPL_g (A := A) (F := F) (d := 0) hS
  have hlo : lo = T_lo (F 3).toNat (F 2) (N_Y A F 0) (A 3) (A 4) (N_al A F) (N_Q A 21) (F 8).toNat := by
    obtain ⟨s1, s2, s3, s4, -, -⟩ := hS
    rw [s4, s3, s2, s1]
    rfl
  refine R_s (P := True) (f' := (2, [some (vR 1), some (vI 0), some (vI p), none], [vI 0, vR 1], LAY (shA A) (shF F), 0, 0)) hc78 2 rfl trivial ?_
  refine R_cv hc78 rfl rfl ?_ (fun r G h => h)
  refine R_s (P := True) (f' := (2, [some (vR 1), some (vI 0)], [vI 0, vR 1], LAY (shA A) (shF F), 0, 0)) hc99 2 rfl trivial ?_
  refine R_cv hc99 rfl rfl ?_ (fun r G h => h)
  refine R_s (P := True) (f' := (1, [some (vR 1), some (vI 0)], [vI 0], LAY (shA A) (shF F), 0, 0)) hc98 1 rfl trivial ?_
  refine R_if (t := 16) hc98 rfl rfl (fun (z : 0 < 0) => absurd z (by decide)) (fun (_ : ¬ (0 < 0)) => ?_)
  refine R_s (P := True) (f' := (9, [some (vR 1), some (vI 0)], [vI (F 0), vI 0], LAY (shA A) (shF F), 0, 0)) hc98 3 rfl trivial ?_
  refine R_ic (t := 16) hc98 rfl rfl (fun (z : F 0 ≤ 0) => absurd z (by omega)) (fun (_ : ¬ (F 0 ≤ 0)) => ?_)
  refine R_s (P := True) (f' := (17, [some (vR 1), some (vI 0)], [vI 1], LAY (shA A) (shF F), 0, 0)) hc98 2 rfl trivial ?_
  refine R_retz hc98 rfl rfl (Or.inr rfl) ?_
  refine R_s (f' := (5, [some (vR 1), some (vI 0)], [vI 1], LAY (shA A) (shF F), 0, 0)) hc99 0 rfl trivial ?_
  refine R_if (t := 17) hc99 rfl rfl (fun (z : 1 = 0) => absurd z (by decide)) (fun (_ : ¬ (1 = 0)) => ?_)
  refine R_s (P := (0 ≤ (0 : Int) ∧ (0 : Int) < (([some 20, some 29, some 38, some 47, some 56, some 65] : List (Option Nat)).length : Int)) ∧ True) (f' := (18, [some (vR 1), some (vI 0)], [vR 20], LAY (shA A) (shF F), 0, 0)) hc99 5 rfl ⟨(by decide), trivial⟩ ?_
  refine R_reta hc99 rfl rfl ?_
  refine R_s (f' := (5, [some (vR 1), some (vI 0), some (vI p), none], [vR 20], LAY (shA A) (shF F), 0, 0)) hc78 0 rfl trivial ?_
  refine R_s (P := True) (f' := (15, [some (vR 1), some (vI 0), some (vI p), some (vR 20)], [vI p, vR 2], LAY (shA A) (shF F), 0, 0)) hc78 6 rfl trivial ?_
  refine R_cv hc78 rfl rfl ?_ (fun r G h => h)
  refine R_s (P := True) (f' := (1, [some (vR 2), some (vI p)], [vI p], LAY (shA A) (shF F), 0, 0)) hc5 1 rfl trivial ?_
  refine R_if (t := 16) hc5 rfl rfl (fun (c4 : p < 0) => ?_) (fun (c4 : ¬ (p < 0)) => ?_)
  · refine R_s (P := True) (f' := (17, [some (vR 2), some (vI p)], [vI 0], LAY (shA A) (shF F), 0, 0)) hc5 1 rfl trivial ?_
    refine R_retz hc5 rfl rfl (Or.inl rfl) ?_
    refine R_s (f' := (18, [some (vR 1), some (vI 0), some (vI p), some (vR 20)], [vI 0], LAY (shA A) (shF F), 0, 0)) hc78 0 rfl trivial ?_
    refine R_if (t := 28) hc78 rfl rfl (fun (z : ¬ 0 = 0) => absurd z (by decide)) (fun (_ : ¬ (¬ 0 = 0)) => ?_)
    refine R_s (P := True) (f' := (24, [some (vR 1), some (vI 0), some (vI p), some (vR 20)], [vI (-3), vR 1], LAY (shA A) (shF F), 0, 0)) hc78 2 rfl trivial ?_
    refine R_cv hc78 rfl rfl ?_ (fun r G h => h)
    refine R_s (P := True) (f' := (3, [some (vR 1), some (vI (-3))], [vI (-2), vI (-3)], LAY (shA A) (shF F), 0, 0)) hc93 2 rfl trivial ?_
    refine R_ic (t := 23) hc93 rfl rfl (fun (z : (-2) < (-3)) => absurd z (by decide)) (fun (_ : ¬ ((-2) < (-3))) => ?_)
    refine R_s (P := True) (f' := (9, [some (vR 1), some (vI (-3))], [vI (-8), vI (-3)], LAY (shA A) (shF F), 0, 0)) hc93 2 rfl trivial ?_
    refine R_ic (t := 23) hc93 rfl rfl (fun (z : (-3) < (-8)) => absurd z (by decide)) (fun (_ : ¬ ((-3) < (-8))) => ?_)
    refine R_s (P := inI 3 ∧ (0 ≤ 3 ∧ 3 < ((A 87).length : Int)) ∧ inI ((rd (A 87) 3) + 1) ∧ (0 ≤ 3 ∧ 3 < ((A 87).length : Int)) ∧ True) (f' := (24, [some (vR 1), some (vI (-3))], [vI (-3)], LAY (u (shA A) 87 (wr (A 87) 3 ((rd (A 87) 3) + 1))) (shF F), 0, 0)) hc93 10 rfl ⟨⟨by omega, by omega⟩, ⟨by omega, by omega⟩, ⟨by omega, by omega⟩, ⟨by omega, by omega⟩, trivial⟩ ?_
    refine R_reti hc93 rfl rfl ?_
    refine R_s (f' := (27, [some (vR 1), some (vI 0), some (vI p), some (vR 20)], [vI (-3)], LAY (u (shA A) 87 (wr (A 87) 3 ((rd (A 87) 3) + 1))) (shF F), 0, 0)) hc78 0 rfl trivial ?_
    refine R_reti hc78 rfl rfl ?_
    first
      | (exfalso; omega; done)
      | exact ⟨(-3), (u A 87 (wr (A 87) 3 ((rd (A 87) 3) + 1))), F, REL_ref hR0 (by decide) (by decide), rfl, rfl, rfl, ⟨(by repeat (first | exact PST_0 | refine PST_A rfl ?_ | refine PST_F rfl ?_)), fun q1 q2 => by exfalso; omega⟩⟩
  · refine R_s (P := True) (f' := (9, [some (vR 2), some (vI p)], [vI (F 3), vI p], LAY (shA A) (shF F), 0, 0)) hc5 3 rfl trivial ?_
    refine R_ic (t := 16) hc5 rfl rfl (fun (c5 : F 3 ≤ p) => ?_) (fun (c5 : ¬ (F 3 ≤ p)) => ?_)
    · refine R_s (P := True) (f' := (17, [some (vR 2), some (vI p)], [vI 0], LAY (shA A) (shF F), 0, 0)) hc5 1 rfl trivial ?_
      refine R_retz hc5 rfl rfl (Or.inl rfl) ?_
      refine R_s (f' := (18, [some (vR 1), some (vI 0), some (vI p), some (vR 20)], [vI 0], LAY (shA A) (shF F), 0, 0)) hc78 0 rfl trivial ?_
      refine R_if (t := 28) hc78 rfl rfl (fun (z : ¬ 0 = 0) => absurd z (by decide)) (fun (_ : ¬ (¬ 0 = 0)) => ?_)
      refine R_s (P := True) (f' := (24, [some (vR 1), some (vI 0), some (vI p), some (vR 20)], [vI (-3), vR 1], LAY (shA A) (shF F), 0, 0)) hc78 2 rfl trivial ?_
      refine R_cv hc78 rfl rfl ?_ (fun r G h => h)
      refine R_s (P := True) (f' := (3, [some (vR 1), some (vI (-3))], [vI (-2), vI (-3)], LAY (shA A) (shF F), 0, 0)) hc93 2 rfl trivial ?_
      refine R_ic (t := 23) hc93 rfl rfl (fun (z : (-2) < (-3)) => absurd z (by decide)) (fun (_ : ¬ ((-2) < (-3))) => ?_)
      refine R_s (P := True) (f' := (9, [some (vR 1), some (vI (-3))], [vI (-8), vI (-3)], LAY (shA A) (shF F), 0, 0)) hc93 2 rfl trivial ?_
      refine R_ic (t := 23) hc93 rfl rfl (fun (z : (-3) < (-8)) => absurd z (by decide)) (fun (_ : ¬ ((-3) < (-8))) => ?_)
      refine R_s (P := inI 3 ∧ (0 ≤ 3 ∧ 3 < ((A 87).length : Int)) ∧ inI ((rd (A 87) 3) + 1) ∧ (0 ≤ 3 ∧ 3 < ((A 87).length : Int)) ∧ True) (f' := (24, [some (vR 1), some (vI (-3))], [vI (-3)], LAY (u (shA A) 87 (wr (A 87) 3 ((rd (A 87) 3) + 1))) (shF F), 0, 0)) hc93 10 rfl ⟨⟨by omega, by omega⟩, ⟨by omega, by omega⟩, ⟨by omega, by omega⟩, ⟨by omega, by omega⟩, trivial⟩ ?_
      refine R_reti hc93 rfl rfl ?_
      refine R_s (f' := (27, [some (vR 1), some (vI 0), some (vI p), some (vR 20)], [vI (-3)], LAY (u (shA A) 87 (wr (A 87) 3 ((rd (A 87) 3) + 1))) (shF F), 0, 0)) hc78 0 rfl trivial ?_
      refine R_reti hc78 rfl rfl ?_
      first
        | (exfalso; omega; done)
        | exact ⟨(-3), (u A 87 (wr (A 87) 3 ((rd (A 87) 3) + 1))), F, REL_ref hR0 (by decide) (by decide), rfl, rfl, rfl, ⟨(by repeat (first | exact PST_0 | refine PST_A rfl ?_ | refine PST_F rfl ?_)), fun q1 q2 => by exfalso; omega⟩⟩
    · refine R_s (P := True) (f' := (17, [some (vR 2), some (vI p)], [vI 1], LAY (shA A) (shF F), 0, 0)) hc5 2 rfl trivial ?_
      refine R_retz hc5 rfl rfl (Or.inr rfl) ?_
      refine R_s (f' := (18, [some (vR 1), some (vI 0), some (vI p), some (vR 20)], [vI 1], LAY (shA A) (shF F), 0, 0)) hc78 0 rfl trivial ?_
      refine R_if (t := 28) hc78 rfl rfl (fun (_ : ¬ 1 = 0) => ?_) (fun (z : ¬ (¬ 1 = 0)) => absurd (by decide) z)
      refine R_s (P := True) (f' := (31, [some (vR 1), some (vI 0), some (vI p), some (vR 20)], [vI 0, vR 20, vR 1], LAY (shA A) (shF F), 0, 0)) hc78 3 rfl trivial ?_
      refine R_cv hc78 rfl rfl (l_now0 hR0 hd hS) (fun r G9 hp9 => ?_)
      obtain ⟨rfl, l8, l9, l10, l11, l75, l76, l77, l78, rfl, k8, k9, k10, k11, k75, k76, k77, k78, v75, v76, v77⟩ := hp9
      have y77 : 0 ≤ p → p < F 3 → rd l77 p = tp (p).toNat := fun q1 q2 => by
        have z := v77 (p).toNat (by omega)
        rw [show ((((p).toNat : Nat)) : Int) = p by omega] at z
        exact z
      refine R_s (f' := (34, [some (vR 1), some (vI 0), some (vI p), some (vR 20)], [], LAY (u (u (u (u (u (u (u (u (shA A) 8 l8) 9 l9) 10 l10) 11 l11) 75 l75) 76 l76) 77 l77) 78 l78) (u (u (shF F) 14 mg) 15 lo), 0, 0)) hc78 0 rfl trivial ?_
      refine R_s (P := (0 ≤ p ∧ p < ((l77).length : Int)) ∧ True) (f' := (43, [some (vR 1), some (vI 0), some (vI p), some (vR 20)], [vI (rd l77 p)], LAY (u (u (u (u (u (u (u (u (shA A) 8 l8) 9 l9) 10 l10) 11 l11) 75 l75) 76 l76) 77 l77) 78 l78) (u (u (shF F) 14 mg) 15 lo), 0, 0)) hc78 5 rfl ⟨⟨by omega, by omega⟩, trivial⟩ ?_
      refine R_reti hc78 rfl rfl ?_
      first
        | (exfalso; omega; done)
        | exact ⟨rd l77 p, (u (u (u (u (u (u (u (u A 8 l8) 9 l9) 10 l10) 11 l11) 75 l75) 76 l76) 77 l77) 78 l78), (u (u F 14 mg) 15 lo), ⟨(LENS_u (LENS_u (LENS_u (LENS_u (LENS_u (LENS_u (LENS_u (LENS_u hL (by show (l8).length = (A 8).length; rw [k8, hL 8 (by decide)]; rfl)) (by show (l9).length = (A 9).length; rw [k9, hL 9 (by decide)]; rfl)) (by show (l10).length = (A 10).length; rw [k10, hL 10 (by decide)]; rfl)) (by show (l11).length = (A 11).length; rw [k11, hL 11 (by decide)]; rfl)) (by show (l75).length = (A 75).length; rw [k75, hL 75 (by decide)]; rfl)) (by show (l76).length = (A 76).length; rw [k76, hL 76 (by decide)]; rfl)) (by show (l77).length = (A 77).length; rw [k77, hL 77 (by decide)]; rfl)) (by show (l78).length = (A 78).length; rw [k78, hL 78 (by decide)]; rfl)), hR0.2.1, hR0.2.2.1, hR0.2.2.2.1, hR0.2.2.2.2.1, hR0.2.2.2.2.2.1, hR0.2.2.2.2.2.2.1, hR0.2.2.2.2.2.2.2.1, hR0.2.2.2.2.2.2.2.2.1, (REFU_c hR0.2.2.2.2.2.2.2.2.2)⟩, rfl, rfl, rfl, ⟨(by repeat (first | exact PST_0 | refine PST_A rfl ?_ | refine PST_F rfl ?_)), fun q1 q2 => by rw [y77 q1 q2]; exact hg.1 _⟩⟩

set_option maxHeartbeats 4000000 in
theorem op_end_0 {c : Int} {A : Nat → List Int} {F : Nat → Int} (hR : REL c A F) (hc : c < 1000000) (i q : Int) (i_i : inI i) (i_q : inI q) (hd : (0 : Int) < F 0) : R 73 (0, L0 73 [vR 1, vI 0, vI i, vI q], [], LAY (shA A) (shF F), 0, 0) (fun r G => ∃ (x : Int) (A' : Nat → List Int) (F' : Nat → Int), REL (c + 1) A' F' ∧ r = some (vI x) ∧ G = LAY (shA A') (shF F') ∧ A' 0 = A 0 ∧ PST A F A' F' ∧ (i = -1 → q = 0 → x = F 8) ∧ (0 ≤ i → i < F 8 → q = 0 → x = rd (A 21) i)) := by
  have hR0 := hR
  obtain ⟨hL, hPE, hTH, hTP, hDE, hLE, hNO, hAC, hRO, hRE⟩ := hR
  have j_i := i_i
  unfold inI at j_i
  have j_q := i_q
  unfold inI at j_q
  have h87 : (A 87).length = 9 := hL 87 (by decide)
  have r2 := REFU_at hRE (k := 2) (by decide) (by decide) hc
  have r3 := REFU_at hRE (k := 3) (by decide) (by decide) hc
  have r4 := REFU_at hRE (k := 4) (by decide) (by decide) hc
  have r5 := REFU_at hRE (k := 5) (by decide) (by decide) hc
  have r6 := REFU_at hRE (k := 6) (by decide) (by decide) hc
  have r7 := REFU_at hRE (k := 7) (by decide) (by decide) hc
  have r8 := REFU_at hRE (k := 8) (by decide) (by decide) hc
  obtain ⟨t1, t2, t3, t4, t5, t6⟩ := hTH
  obtain ⟨p1, p2, p3, p4, p5, p6⟩ := hPE
  have hD := D_at0 hR0 hd
  have he1 := hD.1.1
  have he2 := hD.1.2.1
  obtain ⟨so, te, tp, mg, pm, lo, hS⟩ := SPL_ex A F (N_al A F) (N_Q A 21) (F 8).toNat (N_Y A F 0)
  have hg := SPL_g (A := A) (F := F) (d := 0) hS
  have hlo : lo = T_lo (F 3).toNat (F 2) (N_Y A F 0) (A 3) (A 4) (N_al A F) (N_Q A 21) (F 8).toNat := by
    obtain ⟨s1, s2, s3, s4, -, -⟩ := hS
    rw [s4, s3, s2, s1]
    rfl
  have hl0 : (A 21).length = 6 := hL 21 (by decide)
  have hl1 : (A 22).length = 6 := hL 22 (by decide)
  have hl2 : (A 23).length = 6 := hL 23 (by decide)
  have hl3 : (A 24).length = 6 := hL 24 (by decide)
  have hl4 : (A 25).length = 6 := hL 25 (by decide)
  refine R_s (P := True) (f' := (2, [some (vR 1), some (vI 0), some (vI i), some (vI q), none, none], [vI 0, vR 1], LAY (shA A) (shF F), 0, 0)) hc73 2 rfl trivial ?_
  refine R_cv hc73 rfl rfl ?_ (fun r G h => h)
  refine R_s (P := True) (f' := (2, [some (vR 1), some (vI 0)], [vI 0, vR 1], LAY (shA A) (shF F), 0, 0)) hc99 2 rfl trivial ?_
  refine R_cv hc99 rfl rfl ?_ (fun r G h => h)
  refine R_s (P := True) (f' := (1, [some (vR 1), some (vI 0)], [vI 0], LAY (shA A) (shF F), 0, 0)) hc98 1 rfl trivial ?_
  refine R_if (t := 16) hc98 rfl rfl (fun (z : 0 < 0) => absurd z (by decide)) (fun (_ : ¬ (0 < 0)) => ?_)
  refine R_s (P := True) (f' := (9, [some (vR 1), some (vI 0)], [vI (F 0), vI 0], LAY (shA A) (shF F), 0, 0)) hc98 3 rfl trivial ?_
  refine R_ic (t := 16) hc98 rfl rfl (fun (z : F 0 ≤ 0) => absurd z (by omega)) (fun (_ : ¬ (F 0 ≤ 0)) => ?_)
  refine R_s (P := True) (f' := (17, [some (vR 1), some (vI 0)], [vI 1], LAY (shA A) (shF F), 0, 0)) hc98 2 rfl trivial ?_
  refine R_retz hc98 rfl rfl (Or.inr rfl) ?_
  refine R_s (f' := (5, [some (vR 1), some (vI 0)], [vI 1], LAY (shA A) (shF F), 0, 0)) hc99 0 rfl trivial ?_
  refine R_if (t := 17) hc99 rfl rfl (fun (z : 1 = 0) => absurd z (by decide)) (fun (_ : ¬ (1 = 0)) => ?_)
  refine R_s (P := (0 ≤ (0 : Int) ∧ (0 : Int) < (([some 20, some 29, some 38, some 47, some 56, some 65] : List (Option Nat)).length : Int)) ∧ True) (f' := (18, [some (vR 1), some (vI 0)], [vR 20], LAY (shA A) (shF F), 0, 0)) hc99 5 rfl ⟨(by decide), trivial⟩ ?_
  refine R_reta hc99 rfl rfl ?_
  refine R_s (f' := (5, [some (vR 1), some (vI 0), some (vI i), some (vI q), none, none], [vR 20], LAY (shA A) (shF F), 0, 0)) hc73 0 rfl trivial ?_
  refine R_s (P := True) (f' := (21, [some (vR 1), some (vI 0), some (vI i), some (vI q), some (vR 20), none], [vI (-1), vI i], LAY (shA A) (shF F), 0, 0)) hc73 5 rfl trivial ?_
  refine R_ic (t := 30) hc73 rfl rfl (fun (c4 : ¬ i = (-1)) => ?_) (fun (c4 : ¬ (¬ i = (-1))) => ?_)
  · refine R_s (P := True) (f' := (33, [some (vR 1), some (vI 0), some (vI i), some (vI q), some (vR 20), none], [vI i, vR 20], LAY (shA A) (shF F), 0, 0)) hc73 2 rfl trivial ?_
    refine R_cv hc73 rfl rfl ?_ (fun r G h => h)
    refine R_s (P := True) (f' := (1, [some (vR 20), some (vI i)], [vI i], LAY (shA A) (shF F), 0, 0)) hc1 1 rfl trivial ?_
    refine R_if (t := 16) hc1 rfl rfl (fun (c5 : i < 0) => ?_) (fun (c5 : ¬ (i < 0)) => ?_)
    · refine R_s (P := True) (f' := (17, [some (vR 20), some (vI i)], [vI 0], LAY (shA A) (shF F), 0, 0)) hc1 1 rfl trivial ?_
      refine R_retz hc1 rfl rfl (Or.inl rfl) ?_
      refine R_s (f' := (36, [some (vR 1), some (vI 0), some (vI i), some (vI q), some (vR 20), none], [vI 0], LAY (shA A) (shF F), 0, 0)) hc73 0 rfl trivial ?_
      refine R_if (t := 46) hc73 rfl rfl (fun (z : ¬ 0 = 0) => absurd z (by decide)) (fun (_ : ¬ (¬ 0 = 0)) => ?_)
      refine R_s (P := True) (f' := (42, [some (vR 1), some (vI 0), some (vI i), some (vI q), some (vR 20), none], [vI (-3), vR 1], LAY (shA A) (shF F), 0, 0)) hc73 2 rfl trivial ?_
      refine R_cv hc73 rfl rfl ?_ (fun r G h => h)
      refine R_s (P := True) (f' := (3, [some (vR 1), some (vI (-3))], [vI (-2), vI (-3)], LAY (shA A) (shF F), 0, 0)) hc93 2 rfl trivial ?_
      refine R_ic (t := 23) hc93 rfl rfl (fun (z : (-2) < (-3)) => absurd z (by decide)) (fun (_ : ¬ ((-2) < (-3))) => ?_)
      refine R_s (P := True) (f' := (9, [some (vR 1), some (vI (-3))], [vI (-8), vI (-3)], LAY (shA A) (shF F), 0, 0)) hc93 2 rfl trivial ?_
      refine R_ic (t := 23) hc93 rfl rfl (fun (z : (-3) < (-8)) => absurd z (by decide)) (fun (_ : ¬ ((-3) < (-8))) => ?_)
      refine R_s (P := inI 3 ∧ (0 ≤ 3 ∧ 3 < ((A 87).length : Int)) ∧ inI ((rd (A 87) 3) + 1) ∧ (0 ≤ 3 ∧ 3 < ((A 87).length : Int)) ∧ True) (f' := (24, [some (vR 1), some (vI (-3))], [vI (-3)], LAY (u (shA A) 87 (wr (A 87) 3 ((rd (A 87) 3) + 1))) (shF F), 0, 0)) hc93 10 rfl ⟨⟨by omega, by omega⟩, ⟨by omega, by omega⟩, ⟨by omega, by omega⟩, ⟨by omega, by omega⟩, trivial⟩ ?_
      refine R_reti hc93 rfl rfl ?_
      refine R_s (f' := (45, [some (vR 1), some (vI 0), some (vI i), some (vI q), some (vR 20), none], [vI (-3)], LAY (u (shA A) 87 (wr (A 87) 3 ((rd (A 87) 3) + 1))) (shF F), 0, 0)) hc73 0 rfl trivial ?_
      refine R_reti hc73 rfl rfl ?_
      first
        | (exfalso; omega; done)
        | exact ⟨(-3), (u A 87 (wr (A 87) 3 ((rd (A 87) 3) + 1))), F, REL_ref hR0 (by decide) (by decide), rfl, rfl, rfl, ⟨(by repeat (first | exact PST_0 | refine PST_A rfl ?_ | refine PST_F rfl ?_)), fun q1 q2 => by first | rfl | (exfalso; omega), fun q1 q2 q3 => by first | rfl | (exfalso; omega)⟩⟩
    · refine R_s (P := True) (f' := (9, [some (vR 20), some (vI i)], [vI (F 8), vI i], LAY (shA A) (shF F), 0, 0)) hc1 3 rfl trivial ?_
      refine R_ic (t := 16) hc1 rfl rfl (fun (c6 : F 8 ≤ i) => ?_) (fun (c6 : ¬ (F 8 ≤ i)) => ?_)
      · refine R_s (P := True) (f' := (17, [some (vR 20), some (vI i)], [vI 0], LAY (shA A) (shF F), 0, 0)) hc1 1 rfl trivial ?_
        refine R_retz hc1 rfl rfl (Or.inl rfl) ?_
        refine R_s (f' := (36, [some (vR 1), some (vI 0), some (vI i), some (vI q), some (vR 20), none], [vI 0], LAY (shA A) (shF F), 0, 0)) hc73 0 rfl trivial ?_
        refine R_if (t := 46) hc73 rfl rfl (fun (z : ¬ 0 = 0) => absurd z (by decide)) (fun (_ : ¬ (¬ 0 = 0)) => ?_)
        refine R_s (P := True) (f' := (42, [some (vR 1), some (vI 0), some (vI i), some (vI q), some (vR 20), none], [vI (-3), vR 1], LAY (shA A) (shF F), 0, 0)) hc73 2 rfl trivial ?_
        refine R_cv hc73 rfl rfl ?_ (fun r G h => h)
        refine R_s (P := True) (f' := (3, [some (vR 1), some (vI (-3))], [vI (-2), vI (-3)], LAY (shA A) (shF F), 0, 0)) hc93 2 rfl trivial ?_
        refine R_ic (t := 23) hc93 rfl rfl (fun (z : (-2) < (-3)) => absurd z (by decide)) (fun (_ : ¬ ((-2) < (-3))) => ?_)
        refine R_s (P := True) (f' := (9, [some (vR 1), some (vI (-3))], [vI (-8), vI (-3)], LAY (shA A) (shF F), 0, 0)) hc93 2 rfl trivial ?_
        refine R_ic (t := 23) hc93 rfl rfl (fun (z : (-3) < (-8)) => absurd z (by decide)) (fun (_ : ¬ ((-3) < (-8))) => ?_)
        refine R_s (P := inI 3 ∧ (0 ≤ 3 ∧ 3 < ((A 87).length : Int)) ∧ inI ((rd (A 87) 3) + 1) ∧ (0 ≤ 3 ∧ 3 < ((A 87).length : Int)) ∧ True) (f' := (24, [some (vR 1), some (vI (-3))], [vI (-3)], LAY (u (shA A) 87 (wr (A 87) 3 ((rd (A 87) 3) + 1))) (shF F), 0, 0)) hc93 10 rfl ⟨⟨by omega, by omega⟩, ⟨by omega, by omega⟩, ⟨by omega, by omega⟩, ⟨by omega, by omega⟩, trivial⟩ ?_
        refine R_reti hc93 rfl rfl ?_
        refine R_s (f' := (45, [some (vR 1), some (vI 0), some (vI i), some (vI q), some (vR 20), none], [vI (-3)], LAY (u (shA A) 87 (wr (A 87) 3 ((rd (A 87) 3) + 1))) (shF F), 0, 0)) hc73 0 rfl trivial ?_
        refine R_reti hc73 rfl rfl ?_
        first
          | (exfalso; omega; done)
          | exact ⟨(-3), (u A 87 (wr (A 87) 3 ((rd (A 87) 3) + 1))), F, REL_ref hR0 (by decide) (by decide), rfl, rfl, rfl, ⟨(by repeat (first | exact PST_0 | refine PST_A rfl ?_ | refine PST_F rfl ?_)), fun q1 q2 => by first | rfl | (exfalso; omega), fun q1 q2 q3 => by first | rfl | (exfalso; omega)⟩⟩
      · refine R_s (P := True) (f' := (17, [some (vR 20), some (vI i)], [vI 1], LAY (shA A) (shF F), 0, 0)) hc1 2 rfl trivial ?_
        refine R_retz hc1 rfl rfl (Or.inr rfl) ?_
        refine R_s (f' := (36, [some (vR 1), some (vI 0), some (vI i), some (vI q), some (vR 20), none], [vI 1], LAY (shA A) (shF F), 0, 0)) hc73 0 rfl trivial ?_
        refine R_if (t := 46) hc73 rfl rfl (fun (_ : ¬ 1 = 0) => ?_) (fun (z : ¬ (¬ 1 = 0)) => absurd (by decide) z)
        refine R_s (P := (0 ≤ i ∧ i < ((A 21).length : Int)) ∧ True) (f' := (56, [some (vR 1), some (vI 0), some (vI i), some (vI q), some (vR 20), some (vI (rd (A 21) i))], [vI q], LAY (shA A) (shF F), 0, 0)) hc73 6 rfl ⟨⟨by omega, by omega⟩, trivial⟩ ?_
        refine R_sw (t := 225) hc73 rfl (by decide) (fun isw o hio (c8 : q = 0 + isw) => ?_) rfl (fun (c8 : q < 0 ∨ 5 < q) => ?_)
        · match isw, hio, c8 with
          | 0, hio, c8 =>
            cases hio
            refine R_s (f' := (96, [some (vR 1), some (vI 0), some (vI i), some (vI q), some (vR 20), some (vI (rd (A 21) i))], [], LAY (shA A) (shF F), 0, 0)) hc73 0 rfl trivial ?_
            refine R_s (P := True) (f' := (98, [some (vR 1), some (vI 0), some (vI i), some (vI q), some (vR 20), some (vI (rd (A 21) i))], [vI (rd (A 21) i)], LAY (shA A) (shF F), 0, 0)) hc73 1 rfl trivial ?_
            refine R_reti hc73 rfl rfl ?_
            first
              | (exfalso; omega; done)
              | exact ⟨rd (A 21) i, A, F, REL_c hR0, rfl, rfl, rfl, ⟨(by repeat (first | exact PST_0 | refine PST_A rfl ?_ | refine PST_F rfl ?_)), fun q1 q2 => by first | rfl | (exfalso; omega), fun q1 q2 q3 => by first | rfl | (exfalso; omega)⟩⟩
          | 1, hio, c8 =>
            cases hio
            refine R_s (f' := (99, [some (vR 1), some (vI 0), some (vI i), some (vI q), some (vR 20), some (vI (rd (A 21) i))], [], LAY (shA A) (shF F), 0, 0)) hc73 0 rfl trivial ?_
            refine R_s (P := True) (f' := (102, [some (vR 1), some (vI 0), some (vI i), some (vI q), some (vR 20), some (vI (rd (A 21) i))], [vI 3, vI (rd (A 21) i)], LAY (shA A) (shF F), 0, 0)) hc73 2 rfl trivial ?_
            refine R_ic (t := 114) hc73 rfl rfl (fun (c9 : ¬ rd (A 21) i = 3) => ?_) (fun (c9 : ¬ (¬ rd (A 21) i = 3)) => ?_)
            · refine R_s (P := (0 ≤ i ∧ i < ((A 22).length : Int)) ∧ True) (f' := (121, [some (vR 1), some (vI 0), some (vI i), some (vI q), some (vR 20), some (vI (rd (A 21) i))], [vI (rd (A 22) i)], LAY (shA A) (shF F), 0, 0)) hc73 4 rfl ⟨⟨by omega, by omega⟩, trivial⟩ ?_
              refine R_reti hc73 rfl rfl ?_
              first
                | (exfalso; omega; done)
                | exact ⟨rd (A 22) i, A, F, REL_c hR0, rfl, rfl, rfl, ⟨(by repeat (first | exact PST_0 | refine PST_A rfl ?_ | refine PST_F rfl ?_)), fun q1 q2 => by first | rfl | (exfalso; omega), fun q1 q2 q3 => by first | rfl | (exfalso; omega)⟩⟩
            · refine R_s (P := True) (f' := (108, [some (vR 1), some (vI 0), some (vI i), some (vI q), some (vR 20), some (vI (rd (A 21) i))], [vI (-5), vR 1], LAY (shA A) (shF F), 0, 0)) hc73 2 rfl trivial ?_
              refine R_cv hc73 rfl rfl ?_ (fun r G h => h)
              refine R_s (P := True) (f' := (3, [some (vR 1), some (vI (-5))], [vI (-2), vI (-5)], LAY (shA A) (shF F), 0, 0)) hc93 2 rfl trivial ?_
              refine R_ic (t := 23) hc93 rfl rfl (fun (z : (-2) < (-5)) => absurd z (by decide)) (fun (_ : ¬ ((-2) < (-5))) => ?_)
              refine R_s (P := True) (f' := (9, [some (vR 1), some (vI (-5))], [vI (-8), vI (-5)], LAY (shA A) (shF F), 0, 0)) hc93 2 rfl trivial ?_
              refine R_ic (t := 23) hc93 rfl rfl (fun (z : (-5) < (-8)) => absurd z (by decide)) (fun (_ : ¬ ((-5) < (-8))) => ?_)
              refine R_s (P := inI 5 ∧ (0 ≤ 5 ∧ 5 < ((A 87).length : Int)) ∧ inI ((rd (A 87) 5) + 1) ∧ (0 ≤ 5 ∧ 5 < ((A 87).length : Int)) ∧ True) (f' := (24, [some (vR 1), some (vI (-5))], [vI (-5)], LAY (u (shA A) 87 (wr (A 87) 5 ((rd (A 87) 5) + 1))) (shF F), 0, 0)) hc93 10 rfl ⟨⟨by omega, by omega⟩, ⟨by omega, by omega⟩, ⟨by omega, by omega⟩, ⟨by omega, by omega⟩, trivial⟩ ?_
              refine R_reti hc93 rfl rfl ?_
              refine R_s (f' := (111, [some (vR 1), some (vI 0), some (vI i), some (vI q), some (vR 20), some (vI (rd (A 21) i))], [vI (-5)], LAY (u (shA A) 87 (wr (A 87) 5 ((rd (A 87) 5) + 1))) (shF F), 0, 0)) hc73 0 rfl trivial ?_
              refine R_s (P := True) (f' := (121, [some (vR 1), some (vI 0), some (vI i), some (vI q), some (vR 20), some (vI (rd (A 21) i))], [vI (-5)], LAY (u (shA A) 87 (wr (A 87) 5 ((rd (A 87) 5) + 1))) (shF F), 0, 0)) hc73 1 rfl trivial ?_
              refine R_reti hc73 rfl rfl ?_
              first
                | (exfalso; omega; done)
                | exact ⟨(-5), (u A 87 (wr (A 87) 5 ((rd (A 87) 5) + 1))), F, REL_ref hR0 (by decide) (by decide), rfl, rfl, rfl, ⟨(by repeat (first | exact PST_0 | refine PST_A rfl ?_ | refine PST_F rfl ?_)), fun q1 q2 => by first | rfl | (exfalso; omega), fun q1 q2 q3 => by first | rfl | (exfalso; omega)⟩⟩
          | 2, hio, c8 =>
            cases hio
            refine R_s (f' := (122, [some (vR 1), some (vI 0), some (vI i), some (vI q), some (vR 20), some (vI (rd (A 21) i))], [], LAY (shA A) (shF F), 0, 0)) hc73 0 rfl trivial ?_
            refine R_s (P := True) (f' := (125, [some (vR 1), some (vI 0), some (vI i), some (vI q), some (vR 20), some (vI (rd (A 21) i))], [vI 1, vI (rd (A 21) i)], LAY (shA A) (shF F), 0, 0)) hc73 2 rfl trivial ?_
            refine R_ic (t := 134) hc73 rfl rfl (fun (c12 : rd (A 21) i = 1) => ?_) (fun (c12 : ¬ (rd (A 21) i = 1)) => ?_)
            · refine R_s (P := (0 ≤ i ∧ i < ((A 23).length : Int)) ∧ True) (f' := (150, [some (vR 1), some (vI 0), some (vI i), some (vI q), some (vR 20), some (vI (rd (A 21) i))], [vI (rd (A 23) i)], LAY (shA A) (shF F), 0, 0)) hc73 5 rfl ⟨⟨by omega, by omega⟩, trivial⟩ ?_
              refine R_reti hc73 rfl rfl ?_
              first
                | (exfalso; omega; done)
                | exact ⟨rd (A 23) i, A, F, REL_c hR0, rfl, rfl, rfl, ⟨(by repeat (first | exact PST_0 | refine PST_A rfl ?_ | refine PST_F rfl ?_)), fun q1 q2 => by first | rfl | (exfalso; omega), fun q1 q2 q3 => by first | rfl | (exfalso; omega)⟩⟩
            · refine R_s (P := True) (f' := (131, [some (vR 1), some (vI 0), some (vI i), some (vI q), some (vR 20), some (vI (rd (A 21) i))], [vI 2, vI (rd (A 21) i)], LAY (shA A) (shF F), 0, 0)) hc73 2 rfl trivial ?_
              refine R_ic (t := 144) hc73 rfl rfl (fun (c13 : ¬ rd (A 21) i = 2) => ?_) (fun (c13 : ¬ (¬ rd (A 21) i = 2)) => ?_)
              · refine R_s (P := True) (f' := (147, [some (vR 1), some (vI 0), some (vI i), some (vI q), some (vR 20), some (vI (rd (A 21) i))], [vI (-5), vR 1], LAY (shA A) (shF F), 0, 0)) hc73 2 rfl trivial ?_
                refine R_cv hc73 rfl rfl ?_ (fun r G h => h)
                refine R_s (P := True) (f' := (3, [some (vR 1), some (vI (-5))], [vI (-2), vI (-5)], LAY (shA A) (shF F), 0, 0)) hc93 2 rfl trivial ?_
                refine R_ic (t := 23) hc93 rfl rfl (fun (z : (-2) < (-5)) => absurd z (by decide)) (fun (_ : ¬ ((-2) < (-5))) => ?_)
                refine R_s (P := True) (f' := (9, [some (vR 1), some (vI (-5))], [vI (-8), vI (-5)], LAY (shA A) (shF F), 0, 0)) hc93 2 rfl trivial ?_
                refine R_ic (t := 23) hc93 rfl rfl (fun (z : (-5) < (-8)) => absurd z (by decide)) (fun (_ : ¬ ((-5) < (-8))) => ?_)
                refine R_s (P := inI 5 ∧ (0 ≤ 5 ∧ 5 < ((A 87).length : Int)) ∧ inI ((rd (A 87) 5) + 1) ∧ (0 ≤ 5 ∧ 5 < ((A 87).length : Int)) ∧ True) (f' := (24, [some (vR 1), some (vI (-5))], [vI (-5)], LAY (u (shA A) 87 (wr (A 87) 5 ((rd (A 87) 5) + 1))) (shF F), 0, 0)) hc93 10 rfl ⟨⟨by omega, by omega⟩, ⟨by omega, by omega⟩, ⟨by omega, by omega⟩, ⟨by omega, by omega⟩, trivial⟩ ?_
                refine R_reti hc93 rfl rfl ?_
                refine R_s (f' := (150, [some (vR 1), some (vI 0), some (vI i), some (vI q), some (vR 20), some (vI (rd (A 21) i))], [vI (-5)], LAY (u (shA A) 87 (wr (A 87) 5 ((rd (A 87) 5) + 1))) (shF F), 0, 0)) hc73 0 rfl trivial ?_
                refine R_reti hc73 rfl rfl ?_
                first
                  | (exfalso; omega; done)
                  | exact ⟨(-5), (u A 87 (wr (A 87) 5 ((rd (A 87) 5) + 1))), F, REL_ref hR0 (by decide) (by decide), rfl, rfl, rfl, ⟨(by repeat (first | exact PST_0 | refine PST_A rfl ?_ | refine PST_F rfl ?_)), fun q1 q2 => by first | rfl | (exfalso; omega), fun q1 q2 q3 => by first | rfl | (exfalso; omega)⟩⟩
              · refine R_s (P := (0 ≤ i ∧ i < ((A 23).length : Int)) ∧ True) (f' := (150, [some (vR 1), some (vI 0), some (vI i), some (vI q), some (vR 20), some (vI (rd (A 21) i))], [vI (rd (A 23) i)], LAY (shA A) (shF F), 0, 0)) hc73 5 rfl ⟨⟨by omega, by omega⟩, trivial⟩ ?_
                refine R_reti hc73 rfl rfl ?_
                first
                  | (exfalso; omega; done)
                  | exact ⟨rd (A 23) i, A, F, REL_c hR0, rfl, rfl, rfl, ⟨(by repeat (first | exact PST_0 | refine PST_A rfl ?_ | refine PST_F rfl ?_)), fun q1 q2 => by first | rfl | (exfalso; omega), fun q1 q2 q3 => by first | rfl | (exfalso; omega)⟩⟩
          | 3, hio, c8 =>
            cases hio
            refine R_s (f' := (151, [some (vR 1), some (vI 0), some (vI i), some (vI q), some (vR 20), some (vI (rd (A 21) i))], [], LAY (shA A) (shF F), 0, 0)) hc73 0 rfl trivial ?_
            refine R_s (P := True) (f' := (153, [some (vR 1), some (vI 0), some (vI i), some (vI q), some (vR 20), some (vI (rd (A 21) i))], [vI (rd (A 21) i)], LAY (shA A) (shF F), 0, 0)) hc73 1 rfl trivial ?_
            refine R_if (t := 162) hc73 rfl rfl (fun (c16 : rd (A 21) i = 0) => ?_) (fun (c16 : ¬ (rd (A 21) i = 0)) => ?_)
            · refine R_s (P := (0 ≤ i ∧ i < ((A 24).length : Int)) ∧ True) (f' := (178, [some (vR 1), some (vI 0), some (vI i), some (vI q), some (vR 20), some (vI (rd (A 21) i))], [vI (rd (A 24) i)], LAY (shA A) (shF F), 0, 0)) hc73 5 rfl ⟨⟨by omega, by omega⟩, trivial⟩ ?_
              refine R_reti hc73 rfl rfl ?_
              first
                | (exfalso; omega; done)
                | exact ⟨rd (A 24) i, A, F, REL_c hR0, rfl, rfl, rfl, ⟨(by repeat (first | exact PST_0 | refine PST_A rfl ?_ | refine PST_F rfl ?_)), fun q1 q2 => by first | rfl | (exfalso; omega), fun q1 q2 q3 => by first | rfl | (exfalso; omega)⟩⟩
            · refine R_s (P := True) (f' := (159, [some (vR 1), some (vI 0), some (vI i), some (vI q), some (vR 20), some (vI (rd (A 21) i))], [vI 3, vI (rd (A 21) i)], LAY (shA A) (shF F), 0, 0)) hc73 2 rfl trivial ?_
              refine R_ic (t := 172) hc73 rfl rfl (fun (c17 : ¬ rd (A 21) i = 3) => ?_) (fun (c17 : ¬ (¬ rd (A 21) i = 3)) => ?_)
              · refine R_s (P := True) (f' := (175, [some (vR 1), some (vI 0), some (vI i), some (vI q), some (vR 20), some (vI (rd (A 21) i))], [vI (-5), vR 1], LAY (shA A) (shF F), 0, 0)) hc73 2 rfl trivial ?_
                refine R_cv hc73 rfl rfl ?_ (fun r G h => h)
                refine R_s (P := True) (f' := (3, [some (vR 1), some (vI (-5))], [vI (-2), vI (-5)], LAY (shA A) (shF F), 0, 0)) hc93 2 rfl trivial ?_
                refine R_ic (t := 23) hc93 rfl rfl (fun (z : (-2) < (-5)) => absurd z (by decide)) (fun (_ : ¬ ((-2) < (-5))) => ?_)
                refine R_s (P := True) (f' := (9, [some (vR 1), some (vI (-5))], [vI (-8), vI (-5)], LAY (shA A) (shF F), 0, 0)) hc93 2 rfl trivial ?_
                refine R_ic (t := 23) hc93 rfl rfl (fun (z : (-5) < (-8)) => absurd z (by decide)) (fun (_ : ¬ ((-5) < (-8))) => ?_)
                refine R_s (P := inI 5 ∧ (0 ≤ 5 ∧ 5 < ((A 87).length : Int)) ∧ inI ((rd (A 87) 5) + 1) ∧ (0 ≤ 5 ∧ 5 < ((A 87).length : Int)) ∧ True) (f' := (24, [some (vR 1), some (vI (-5))], [vI (-5)], LAY (u (shA A) 87 (wr (A 87) 5 ((rd (A 87) 5) + 1))) (shF F), 0, 0)) hc93 10 rfl ⟨⟨by omega, by omega⟩, ⟨by omega, by omega⟩, ⟨by omega, by omega⟩, ⟨by omega, by omega⟩, trivial⟩ ?_
                refine R_reti hc93 rfl rfl ?_
                refine R_s (f' := (178, [some (vR 1), some (vI 0), some (vI i), some (vI q), some (vR 20), some (vI (rd (A 21) i))], [vI (-5)], LAY (u (shA A) 87 (wr (A 87) 5 ((rd (A 87) 5) + 1))) (shF F), 0, 0)) hc73 0 rfl trivial ?_
                refine R_reti hc73 rfl rfl ?_
                first
                  | (exfalso; omega; done)
                  | exact ⟨(-5), (u A 87 (wr (A 87) 5 ((rd (A 87) 5) + 1))), F, REL_ref hR0 (by decide) (by decide), rfl, rfl, rfl, ⟨(by repeat (first | exact PST_0 | refine PST_A rfl ?_ | refine PST_F rfl ?_)), fun q1 q2 => by first | rfl | (exfalso; omega), fun q1 q2 q3 => by first | rfl | (exfalso; omega)⟩⟩
              · refine R_s (P := (0 ≤ i ∧ i < ((A 24).length : Int)) ∧ True) (f' := (178, [some (vR 1), some (vI 0), some (vI i), some (vI q), some (vR 20), some (vI (rd (A 21) i))], [vI (rd (A 24) i)], LAY (shA A) (shF F), 0, 0)) hc73 5 rfl ⟨⟨by omega, by omega⟩, trivial⟩ ?_
                refine R_reti hc73 rfl rfl ?_
                first
                  | (exfalso; omega; done)
                  | exact ⟨rd (A 24) i, A, F, REL_c hR0, rfl, rfl, rfl, ⟨(by repeat (first | exact PST_0 | refine PST_A rfl ?_ | refine PST_F rfl ?_)), fun q1 q2 => by first | rfl | (exfalso; omega), fun q1 q2 q3 => by first | rfl | (exfalso; omega)⟩⟩
          | 4, hio, c8 =>
            cases hio
            refine R_s (f' := (179, [some (vR 1), some (vI 0), some (vI i), some (vI q), some (vR 20), some (vI (rd (A 21) i))], [], LAY (shA A) (shF F), 0, 0)) hc73 0 rfl trivial ?_
            refine R_s (P := True) (f' := (182, [some (vR 1), some (vI 0), some (vI i), some (vI q), some (vR 20), some (vI (rd (A 21) i))], [vI 1, vI (rd (A 21) i)], LAY (shA A) (shF F), 0, 0)) hc73 2 rfl trivial ?_
            refine R_ic (t := 198) hc73 rfl rfl (fun (c20 : ¬ rd (A 21) i = 1) => ?_) (fun (c20 : ¬ (¬ rd (A 21) i = 1)) => ?_)
            · refine R_s (P := True) (f' := (201, [some (vR 1), some (vI 0), some (vI i), some (vI q), some (vR 20), some (vI (rd (A 21) i))], [vI (-5), vR 1], LAY (shA A) (shF F), 0, 0)) hc73 2 rfl trivial ?_
              refine R_cv hc73 rfl rfl ?_ (fun r G h => h)
              refine R_s (P := True) (f' := (3, [some (vR 1), some (vI (-5))], [vI (-2), vI (-5)], LAY (shA A) (shF F), 0, 0)) hc93 2 rfl trivial ?_
              refine R_ic (t := 23) hc93 rfl rfl (fun (z : (-2) < (-5)) => absurd z (by decide)) (fun (_ : ¬ ((-2) < (-5))) => ?_)
              refine R_s (P := True) (f' := (9, [some (vR 1), some (vI (-5))], [vI (-8), vI (-5)], LAY (shA A) (shF F), 0, 0)) hc93 2 rfl trivial ?_
              refine R_ic (t := 23) hc93 rfl rfl (fun (z : (-5) < (-8)) => absurd z (by decide)) (fun (_ : ¬ ((-5) < (-8))) => ?_)
              refine R_s (P := inI 5 ∧ (0 ≤ 5 ∧ 5 < ((A 87).length : Int)) ∧ inI ((rd (A 87) 5) + 1) ∧ (0 ≤ 5 ∧ 5 < ((A 87).length : Int)) ∧ True) (f' := (24, [some (vR 1), some (vI (-5))], [vI (-5)], LAY (u (shA A) 87 (wr (A 87) 5 ((rd (A 87) 5) + 1))) (shF F), 0, 0)) hc93 10 rfl ⟨⟨by omega, by omega⟩, ⟨by omega, by omega⟩, ⟨by omega, by omega⟩, ⟨by omega, by omega⟩, trivial⟩ ?_
              refine R_reti hc93 rfl rfl ?_
              refine R_s (f' := (204, [some (vR 1), some (vI 0), some (vI i), some (vI q), some (vR 20), some (vI (rd (A 21) i))], [vI (-5)], LAY (u (shA A) 87 (wr (A 87) 5 ((rd (A 87) 5) + 1))) (shF F), 0, 0)) hc73 0 rfl trivial ?_
              refine R_reti hc73 rfl rfl ?_
              first
                | (exfalso; omega; done)
                | exact ⟨(-5), (u A 87 (wr (A 87) 5 ((rd (A 87) 5) + 1))), F, REL_ref hR0 (by decide) (by decide), rfl, rfl, rfl, ⟨(by repeat (first | exact PST_0 | refine PST_A rfl ?_ | refine PST_F rfl ?_)), fun q1 q2 => by first | rfl | (exfalso; omega), fun q1 q2 q3 => by first | rfl | (exfalso; omega)⟩⟩
            · refine R_s (P := (0 ≤ i ∧ i < ((A 25).length : Int)) ∧ True) (f' := (192, [some (vR 1), some (vI 0), some (vI i), some (vI q), some (vR 20), some (vI (rd (A 21) i))], [vI (rd (A 25) i)], LAY (shA A) (shF F), 0, 0)) hc73 4 rfl ⟨⟨by omega, by omega⟩, trivial⟩ ?_
              refine R_cs hc73 rfl rfl ?_ (fun r G h => h)
              refine R_s (P := True) (f' := (1, [some (vI (rd (A 25) i))], [vI (rd (A 25) i)], LAY (shA A) (shF F), 0, 0)) hc95 1 rfl trivial ?_
              refine R_if (t := 8) hc95 rfl rfl (fun (c23 : rd (A 25) i = 0) => ?_) (fun (c23 : ¬ (rd (A 25) i = 0)) => ?_)
              · refine R_s (P := True) (f' := (9, [some (vI (rd (A 25) i))], [vI 0], LAY (shA A) (shF F), 0, 0)) hc95 1 rfl trivial ?_
                refine R_reti hc95 rfl rfl ?_
                refine R_s (f' := (195, [some (vR 1), some (vI 0), some (vI i), some (vI q), some (vR 20), some (vI (rd (A 21) i))], [vI 0], LAY (shA A) (shF F), 0, 0)) hc73 0 rfl trivial ?_
                refine R_s (P := True) (f' := (204, [some (vR 1), some (vI 0), some (vI i), some (vI q), some (vR 20), some (vI (rd (A 21) i))], [vI 0], LAY (shA A) (shF F), 0, 0)) hc73 1 rfl trivial ?_
                refine R_reti hc73 rfl rfl ?_
                first
                  | (exfalso; omega; done)
                  | exact ⟨0, A, F, REL_c hR0, rfl, rfl, rfl, ⟨(by repeat (first | exact PST_0 | refine PST_A rfl ?_ | refine PST_F rfl ?_)), fun q1 q2 => by first | rfl | (exfalso; omega), fun q1 q2 q3 => by first | rfl | (exfalso; omega)⟩⟩
              · refine R_s (P := True) (f' := (9, [some (vI (rd (A 25) i))], [vI 1], LAY (shA A) (shF F), 0, 0)) hc95 2 rfl trivial ?_
                refine R_reti hc95 rfl rfl ?_
                refine R_s (f' := (195, [some (vR 1), some (vI 0), some (vI i), some (vI q), some (vR 20), some (vI (rd (A 21) i))], [vI 1], LAY (shA A) (shF F), 0, 0)) hc73 0 rfl trivial ?_
                refine R_s (P := True) (f' := (204, [some (vR 1), some (vI 0), some (vI i), some (vI q), some (vR 20), some (vI (rd (A 21) i))], [vI 1], LAY (shA A) (shF F), 0, 0)) hc73 1 rfl trivial ?_
                refine R_reti hc73 rfl rfl ?_
                first
                  | (exfalso; omega; done)
                  | exact ⟨1, A, F, REL_c hR0, rfl, rfl, rfl, ⟨(by repeat (first | exact PST_0 | refine PST_A rfl ?_ | refine PST_F rfl ?_)), fun q1 q2 => by first | rfl | (exfalso; omega), fun q1 q2 q3 => by first | rfl | (exfalso; omega)⟩⟩
          | 5, hio, c8 =>
            cases hio
            refine R_s (f' := (205, [some (vR 1), some (vI 0), some (vI i), some (vI q), some (vR 20), some (vI (rd (A 21) i))], [], LAY (shA A) (shF F), 0, 0)) hc73 0 rfl trivial ?_
            refine R_s (P := True) (f' := (209, [some (vR 1), some (vI 0), some (vI i), some (vI q), some (vR 20), some (vI (rd (A 21) i))], [vI 0, vR 20, vR 1], LAY (shA A) (shF F), 0, 0)) hc73 3 rfl trivial ?_
            refine R_cv hc73 rfl rfl (l_now0 hR0 hd hS) (fun r G9 hp9 => ?_)
            obtain ⟨rfl, l8, l9, l10, l11, l75, l76, l77, l78, rfl, k8, k9, k10, k11, k75, k76, k77, k78, v75, v76, v77⟩ := hp9
            have y75 : 0 ≤ i → i < F 8 → rd l75 i = so (i).toNat := fun q1 q2 => by
              have z := v75 (i).toNat (by omega)
              rw [show ((((i).toNat : Nat)) : Int) = i by omega] at z
              exact z
            refine R_s (f' := (212, [some (vR 1), some (vI 0), some (vI i), some (vI q), some (vR 20), some (vI (rd (A 21) i))], [], LAY (u (u (u (u (u (u (u (u (shA A) 8 l8) 9 l9) 10 l10) 11 l11) 75 l75) 76 l76) 77 l77) 78 l78) (u (u (shF F) 14 mg) 15 lo), 0, 0)) hc73 0 rfl trivial ?_
            refine R_s (P := (0 ≤ i ∧ i < ((l75).length : Int)) ∧ True) (f' := (221, [some (vR 1), some (vI 0), some (vI i), some (vI q), some (vR 20), some (vI (rd (A 21) i))], [vI (rd l75 i)], LAY (u (u (u (u (u (u (u (u (shA A) 8 l8) 9 l9) 10 l10) 11 l11) 75 l75) 76 l76) 77 l77) 78 l78) (u (u (shF F) 14 mg) 15 lo), 0, 0)) hc73 5 rfl ⟨⟨by omega, by omega⟩, trivial⟩ ?_
            refine R_cs hc73 rfl rfl ?_ (fun r G h => h)
            refine R_s (P := True) (f' := (1, [some (vI (rd l75 i))], [vI (rd l75 i)], LAY (u (u (u (u (u (u (u (u (shA A) 8 l8) 9 l9) 10 l10) 11 l11) 75 l75) 76 l76) 77 l77) 78 l78) (u (u (shF F) 14 mg) 15 lo), 0, 0)) hc95 1 rfl trivial ?_
            refine R_if (t := 8) hc95 rfl rfl (fun (c24 : rd l75 i = 0) => ?_) (fun (c24 : ¬ (rd l75 i = 0)) => ?_)
            · refine R_s (P := True) (f' := (9, [some (vI (rd l75 i))], [vI 0], LAY (u (u (u (u (u (u (u (u (shA A) 8 l8) 9 l9) 10 l10) 11 l11) 75 l75) 76 l76) 77 l77) 78 l78) (u (u (shF F) 14 mg) 15 lo), 0, 0)) hc95 1 rfl trivial ?_
              refine R_reti hc95 rfl rfl ?_
              refine R_s (f' := (224, [some (vR 1), some (vI 0), some (vI i), some (vI q), some (vR 20), some (vI (rd (A 21) i))], [vI 0], LAY (u (u (u (u (u (u (u (u (shA A) 8 l8) 9 l9) 10 l10) 11 l11) 75 l75) 76 l76) 77 l77) 78 l78) (u (u (shF F) 14 mg) 15 lo), 0, 0)) hc73 0 rfl trivial ?_
              refine R_reti hc73 rfl rfl ?_
              first
                | (exfalso; omega; done)
                | exact ⟨0, (u (u (u (u (u (u (u (u A 8 l8) 9 l9) 10 l10) 11 l11) 75 l75) 76 l76) 77 l77) 78 l78), (u (u F 14 mg) 15 lo), ⟨(LENS_u (LENS_u (LENS_u (LENS_u (LENS_u (LENS_u (LENS_u (LENS_u hL (by show (l8).length = (A 8).length; rw [k8, hL 8 (by decide)]; rfl)) (by show (l9).length = (A 9).length; rw [k9, hL 9 (by decide)]; rfl)) (by show (l10).length = (A 10).length; rw [k10, hL 10 (by decide)]; rfl)) (by show (l11).length = (A 11).length; rw [k11, hL 11 (by decide)]; rfl)) (by show (l75).length = (A 75).length; rw [k75, hL 75 (by decide)]; rfl)) (by show (l76).length = (A 76).length; rw [k76, hL 76 (by decide)]; rfl)) (by show (l77).length = (A 77).length; rw [k77, hL 77 (by decide)]; rfl)) (by show (l78).length = (A 78).length; rw [k78, hL 78 (by decide)]; rfl)), hR0.2.1, hR0.2.2.1, hR0.2.2.2.1, hR0.2.2.2.2.1, hR0.2.2.2.2.2.1, hR0.2.2.2.2.2.2.1, hR0.2.2.2.2.2.2.2.1, hR0.2.2.2.2.2.2.2.2.1, (REFU_c hR0.2.2.2.2.2.2.2.2.2)⟩, rfl, rfl, rfl, ⟨(by repeat (first | exact PST_0 | refine PST_A rfl ?_ | refine PST_F rfl ?_)), fun q1 q2 => by first | rfl | (exfalso; omega), fun q1 q2 q3 => by first | rfl | (exfalso; omega)⟩⟩
            · refine R_s (P := True) (f' := (9, [some (vI (rd l75 i))], [vI 1], LAY (u (u (u (u (u (u (u (u (shA A) 8 l8) 9 l9) 10 l10) 11 l11) 75 l75) 76 l76) 77 l77) 78 l78) (u (u (shF F) 14 mg) 15 lo), 0, 0)) hc95 2 rfl trivial ?_
              refine R_reti hc95 rfl rfl ?_
              refine R_s (f' := (224, [some (vR 1), some (vI 0), some (vI i), some (vI q), some (vR 20), some (vI (rd (A 21) i))], [vI 1], LAY (u (u (u (u (u (u (u (u (shA A) 8 l8) 9 l9) 10 l10) 11 l11) 75 l75) 76 l76) 77 l77) 78 l78) (u (u (shF F) 14 mg) 15 lo), 0, 0)) hc73 0 rfl trivial ?_
              refine R_reti hc73 rfl rfl ?_
              first
                | (exfalso; omega; done)
                | exact ⟨1, (u (u (u (u (u (u (u (u A 8 l8) 9 l9) 10 l10) 11 l11) 75 l75) 76 l76) 77 l77) 78 l78), (u (u F 14 mg) 15 lo), ⟨(LENS_u (LENS_u (LENS_u (LENS_u (LENS_u (LENS_u (LENS_u (LENS_u hL (by show (l8).length = (A 8).length; rw [k8, hL 8 (by decide)]; rfl)) (by show (l9).length = (A 9).length; rw [k9, hL 9 (by decide)]; rfl)) (by show (l10).length = (A 10).length; rw [k10, hL 10 (by decide)]; rfl)) (by show (l11).length = (A 11).length; rw [k11, hL 11 (by decide)]; rfl)) (by show (l75).length = (A 75).length; rw [k75, hL 75 (by decide)]; rfl)) (by show (l76).length = (A 76).length; rw [k76, hL 76 (by decide)]; rfl)) (by show (l77).length = (A 77).length; rw [k77, hL 77 (by decide)]; rfl)) (by show (l78).length = (A 78).length; rw [k78, hL 78 (by decide)]; rfl)), hR0.2.1, hR0.2.2.1, hR0.2.2.2.1, hR0.2.2.2.2.1, hR0.2.2.2.2.2.1, hR0.2.2.2.2.2.2.1, hR0.2.2.2.2.2.2.2.1, hR0.2.2.2.2.2.2.2.2.1, (REFU_c hR0.2.2.2.2.2.2.2.2.2)⟩, rfl, rfl, rfl, ⟨(by repeat (first | exact PST_0 | refine PST_A rfl ?_ | refine PST_F rfl ?_)), fun q1 q2 => by first | rfl | (exfalso; omega), fun q1 q2 q3 => by first | rfl | (exfalso; omega)⟩⟩
          | isw + 6, hio, c8 => exact absurd hio (by simp)
        · rcases c8 with c8 | c8
          · refine R_s (P := True) (f' := (228, [some (vR 1), some (vI 0), some (vI i), some (vI q), some (vR 20), some (vI (rd (A 21) i))], [vI (-7), vR 1], LAY (shA A) (shF F), 0, 0)) hc73 2 rfl trivial ?_
            refine R_cv hc73 rfl rfl ?_ (fun r G h => h)
            refine R_s (P := True) (f' := (3, [some (vR 1), some (vI (-7))], [vI (-2), vI (-7)], LAY (shA A) (shF F), 0, 0)) hc93 2 rfl trivial ?_
            refine R_ic (t := 23) hc93 rfl rfl (fun (z : (-2) < (-7)) => absurd z (by decide)) (fun (_ : ¬ ((-2) < (-7))) => ?_)
            refine R_s (P := True) (f' := (9, [some (vR 1), some (vI (-7))], [vI (-8), vI (-7)], LAY (shA A) (shF F), 0, 0)) hc93 2 rfl trivial ?_
            refine R_ic (t := 23) hc93 rfl rfl (fun (z : (-7) < (-8)) => absurd z (by decide)) (fun (_ : ¬ ((-7) < (-8))) => ?_)
            refine R_s (P := inI 7 ∧ (0 ≤ 7 ∧ 7 < ((A 87).length : Int)) ∧ inI ((rd (A 87) 7) + 1) ∧ (0 ≤ 7 ∧ 7 < ((A 87).length : Int)) ∧ True) (f' := (24, [some (vR 1), some (vI (-7))], [vI (-7)], LAY (u (shA A) 87 (wr (A 87) 7 ((rd (A 87) 7) + 1))) (shF F), 0, 0)) hc93 10 rfl ⟨⟨by omega, by omega⟩, ⟨by omega, by omega⟩, ⟨by omega, by omega⟩, ⟨by omega, by omega⟩, trivial⟩ ?_
            refine R_reti hc93 rfl rfl ?_
            refine R_s (f' := (231, [some (vR 1), some (vI 0), some (vI i), some (vI q), some (vR 20), some (vI (rd (A 21) i))], [vI (-7)], LAY (u (shA A) 87 (wr (A 87) 7 ((rd (A 87) 7) + 1))) (shF F), 0, 0)) hc73 0 rfl trivial ?_
            refine R_reti hc73 rfl rfl ?_
            first
              | (exfalso; omega; done)
              | exact ⟨(-7), (u A 87 (wr (A 87) 7 ((rd (A 87) 7) + 1))), F, REL_ref hR0 (by decide) (by decide), rfl, rfl, rfl, ⟨(by repeat (first | exact PST_0 | refine PST_A rfl ?_ | refine PST_F rfl ?_)), fun q1 q2 => by first | rfl | (exfalso; omega), fun q1 q2 q3 => by first | rfl | (exfalso; omega)⟩⟩
          · refine R_s (P := True) (f' := (228, [some (vR 1), some (vI 0), some (vI i), some (vI q), some (vR 20), some (vI (rd (A 21) i))], [vI (-7), vR 1], LAY (shA A) (shF F), 0, 0)) hc73 2 rfl trivial ?_
            refine R_cv hc73 rfl rfl ?_ (fun r G h => h)
            refine R_s (P := True) (f' := (3, [some (vR 1), some (vI (-7))], [vI (-2), vI (-7)], LAY (shA A) (shF F), 0, 0)) hc93 2 rfl trivial ?_
            refine R_ic (t := 23) hc93 rfl rfl (fun (z : (-2) < (-7)) => absurd z (by decide)) (fun (_ : ¬ ((-2) < (-7))) => ?_)
            refine R_s (P := True) (f' := (9, [some (vR 1), some (vI (-7))], [vI (-8), vI (-7)], LAY (shA A) (shF F), 0, 0)) hc93 2 rfl trivial ?_
            refine R_ic (t := 23) hc93 rfl rfl (fun (z : (-7) < (-8)) => absurd z (by decide)) (fun (_ : ¬ ((-7) < (-8))) => ?_)
            refine R_s (P := inI 7 ∧ (0 ≤ 7 ∧ 7 < ((A 87).length : Int)) ∧ inI ((rd (A 87) 7) + 1) ∧ (0 ≤ 7 ∧ 7 < ((A 87).length : Int)) ∧ True) (f' := (24, [some (vR 1), some (vI (-7))], [vI (-7)], LAY (u (shA A) 87 (wr (A 87) 7 ((rd (A 87) 7) + 1))) (shF F), 0, 0)) hc93 10 rfl ⟨⟨by omega, by omega⟩, ⟨by omega, by omega⟩, ⟨by omega, by omega⟩, ⟨by omega, by omega⟩, trivial⟩ ?_
            refine R_reti hc93 rfl rfl ?_
            refine R_s (f' := (231, [some (vR 1), some (vI 0), some (vI i), some (vI q), some (vR 20), some (vI (rd (A 21) i))], [vI (-7)], LAY (u (shA A) 87 (wr (A 87) 7 ((rd (A 87) 7) + 1))) (shF F), 0, 0)) hc73 0 rfl trivial ?_
            refine R_reti hc73 rfl rfl ?_
            first
              | (exfalso; omega; done)
              | exact ⟨(-7), (u A 87 (wr (A 87) 7 ((rd (A 87) 7) + 1))), F, REL_ref hR0 (by decide) (by decide), rfl, rfl, rfl, ⟨(by repeat (first | exact PST_0 | refine PST_A rfl ?_ | refine PST_F rfl ?_)), fun q1 q2 => by first | rfl | (exfalso; omega), fun q1 q2 q3 => by first | rfl | (exfalso; omega)⟩⟩
  · refine R_s (P := True) (f' := (29, [some (vR 1), some (vI 0), some (vI i), some (vI q), some (vR 20), none], [vI (F 8)], LAY (shA A) (shF F), 0, 0)) hc73 2 rfl trivial ?_
    refine R_reti hc73 rfl rfl ?_
    first
      | (exfalso; omega; done)
      | exact ⟨F 8, A, F, REL_c hR0, rfl, rfl, rfl, ⟨(by repeat (first | exact PST_0 | refine PST_A rfl ?_ | refine PST_F rfl ?_)), fun q1 q2 => by first | rfl | (exfalso; omega), fun q1 q2 q3 => by first | rfl | (exfalso; omega)⟩⟩

theorem op_yields_0 {c : Int} {A : Nat → List Int} {F : Nat → Int} (hR : REL c A F) (hc : c < 1000000) (hd : (0 : Int) < F 0) : R 74 (0, L0 74 [vR 1, vI 0], [], LAY (shA A) (shF F), 0, 0) (fun r G => ∃ (x : Int) (A' : Nat → List Int) (F' : Nat → Int), REL (c + 1) A' F' ∧ r = some (vI x) ∧ G = LAY (shA A') (shF F') ∧ A' 0 = A 0 ∧ PST A F A' F' ∧ x = N_Y A F 0) := by
  have hR0 := hR
  obtain ⟨hL, hPE, hTH, hTP, hDE, hLE, hNO, hAC, hRO, hRE⟩ := hR
  have h87 : (A 87).length = 9 := hL 87 (by decide)
  have r2 := REFU_at hRE (k := 2) (by decide) (by decide) hc
  have r3 := REFU_at hRE (k := 3) (by decide) (by decide) hc
  have r4 := REFU_at hRE (k := 4) (by decide) (by decide) hc
  have r5 := REFU_at hRE (k := 5) (by decide) (by decide) hc
  have r6 := REFU_at hRE (k := 6) (by decide) (by decide) hc
  have r7 := REFU_at hRE (k := 7) (by decide) (by decide) hc
  have r8 := REFU_at hRE (k := 8) (by decide) (by decide) hc
  obtain ⟨t1, t2, t3, t4, t5, t6⟩ := hTH
  obtain ⟨p1, p2, p3, p4, p5, p6⟩ := hPE
  refine R_s (P := True) (f' := (2, [some (vR 1), some (vI 0)], [vI 0, vR 1], LAY (shA A) (shF F), 0, 0)) hc74 2 rfl trivial ?_
  refine R_cv hc74 rfl rfl ?_ (fun r G h => h)
  refine R_s (P := True) (f' := (1, [some (vR 1), some (vI 0)], [vI 0], LAY (shA A) (shF F), 0, 0)) hc98 1 rfl trivial ?_
  refine R_if (t := 16) hc98 rfl rfl (fun (z : 0 < 0) => absurd z (by decide)) (fun (_ : ¬ (0 < 0)) => ?_)
  refine R_s (P := True) (f' := (9, [some (vR 1), some (vI 0)], [vI (F 0), vI 0], LAY (shA A) (shF F), 0, 0)) hc98 3 rfl trivial ?_
  refine R_ic (t := 16) hc98 rfl rfl (fun (z : F 0 ≤ 0) => absurd z (by omega)) (fun (_ : ¬ (F 0 ≤ 0)) => ?_)
  refine R_s (P := True) (f' := (17, [some (vR 1), some (vI 0)], [vI 1], LAY (shA A) (shF F), 0, 0)) hc98 2 rfl trivial ?_
  refine R_retz hc98 rfl rfl (Or.inr rfl) ?_
  refine R_s (f' := (5, [some (vR 1), some (vI 0)], [vI 1], LAY (shA A) (shF F), 0, 0)) hc74 0 rfl trivial ?_
  refine R_if (t := 15) hc74 rfl rfl (fun (_ : ¬ 1 = 0) => ?_) (fun (z : ¬ (¬ 1 = 0)) => absurd (by decide) z)
  refine R_s (P := True) (f' := (20, [some (vR 1), some (vI 0)], [vI 0, vR 12], LAY (shA A) (shF F), 0, 0)) hc74 3 rfl trivial ?_
  refine R_cv hc74 rfl rfl (l_yieldC (A := (shA A)) (F := (shF F)) (LENS_sh hL) ⟨t1, t2⟩ 0 (by decide) (fun i hi => R_prod hR0 (d := 0) (by decide) i hi)) (fun r G9 hp9 => ?_)
  obtain ⟨e1, rfl⟩ := hp9
  have e2 : r = some (vI (N_Y A F 0)) := e1
  clear e1
  subst e2
  refine R_s (f' := (23, [some (vR 1), some (vI 0)], [vI (N_Y A F 0)], LAY (shA A) (shF F), 0, 0)) hc74 0 rfl trivial ?_
  refine R_reti hc74 rfl rfl ?_
  first
    | (exfalso; omega; done)
    | exact ⟨N_Y A F 0, A, F, REL_c hR0, rfl, rfl, rfl, ⟨(by repeat (first | exact PST_0 | refine PST_A rfl ?_ | refine PST_F rfl ?_)), rfl⟩⟩

theorem op_left_1 {c : Int} {A : Nat → List Int} {F : Nat → Int} (hR : REL c A F) (hc : c < 1000000) (hd : (1 : Int) < F 0) : R 76 (0, L0 76 [vR 1, vI 1], [], LAY (shA A) (shF F), 0, 0) (fun r G => ∃ (x : Int) (A' : Nat → List Int) (F' : Nat → Int), REL (c + 1) A' F' ∧ r = some (vI x) ∧ G = LAY (shA A') (shF F') ∧ A' 0 = A 0 ∧ PST A F A' F' ∧ x = T_lo (F 3).toNat (F 2) (N_Y A F 1) (A 3) (A 4) (N_al A F) (N_Q A 30) (F 9).toNat) := by
  have hR0 := hR
  obtain ⟨hL, hPE, hTH, hTP, hDE, hLE, hNO, hAC, hRO, hRE⟩ := hR
  have h87 : (A 87).length = 9 := hL 87 (by decide)
  have r2 := REFU_at hRE (k := 2) (by decide) (by decide) hc
  have r3 := REFU_at hRE (k := 3) (by decide) (by decide) hc
  have r4 := REFU_at hRE (k := 4) (by decide) (by decide) hc
  have r5 := REFU_at hRE (k := 5) (by decide) (by decide) hc
  have r6 := REFU_at hRE (k := 6) (by decide) (by decide) hc
  have r7 := REFU_at hRE (k := 7) (by decide) (by decide) hc
  have r8 := REFU_at hRE (k := 8) (by decide) (by decide) hc
  obtain ⟨t1, t2, t3, t4, t5, t6⟩ := hTH
  obtain ⟨p1, p2, p3, p4, p5, p6⟩ := hPE
  have hD := D_at1 hR0 hd
  have he1 := hD.1.1
  have he2 := hD.1.2.1
  obtain ⟨so, te, tp, mg, pm, lo, hS⟩ := SPL_ex A F (N_al A F) (N_Q A 30) (F 9).toNat (N_Y A F 1)
  have hg := SPL_g (A := A) (F := F) (d := 1) hS
  have hlo : lo = T_lo (F 3).toNat (F 2) (N_Y A F 1) (A 3) (A 4) (N_al A F) (N_Q A 30) (F 9).toNat := by
    obtain ⟨s1, s2, s3, s4, -, -⟩ := hS
    rw [s4, s3, s2, s1]
    rfl
  refine R_s (P := True) (f' := (2, [some (vR 1), some (vI 1), none], [vI 1, vR 1], LAY (shA A) (shF F), 0, 0)) hc76 2 rfl trivial ?_
  refine R_cv hc76 rfl rfl ?_ (fun r G h => h)
  refine R_s (P := True) (f' := (2, [some (vR 1), some (vI 1)], [vI 1, vR 1], LAY (shA A) (shF F), 0, 0)) hc99 2 rfl trivial ?_
  refine R_cv hc99 rfl rfl ?_ (fun r G h => h)
  refine R_s (P := True) (f' := (1, [some (vR 1), some (vI 1)], [vI 1], LAY (shA A) (shF F), 0, 0)) hc98 1 rfl trivial ?_
  refine R_if (t := 16) hc98 rfl rfl (fun (z : 1 < 0) => absurd z (by decide)) (fun (_ : ¬ (1 < 0)) => ?_)
  refine R_s (P := True) (f' := (9, [some (vR 1), some (vI 1)], [vI (F 0), vI 1], LAY (shA A) (shF F), 0, 0)) hc98 3 rfl trivial ?_
  refine R_ic (t := 16) hc98 rfl rfl (fun (z : F 0 ≤ 1) => absurd z (by omega)) (fun (_ : ¬ (F 0 ≤ 1)) => ?_)
  refine R_s (P := True) (f' := (17, [some (vR 1), some (vI 1)], [vI 1], LAY (shA A) (shF F), 0, 0)) hc98 2 rfl trivial ?_
  refine R_retz hc98 rfl rfl (Or.inr rfl) ?_
  refine R_s (f' := (5, [some (vR 1), some (vI 1)], [vI 1], LAY (shA A) (shF F), 0, 0)) hc99 0 rfl trivial ?_
  refine R_if (t := 17) hc99 rfl rfl (fun (z : 1 = 0) => absurd z (by decide)) (fun (_ : ¬ (1 = 0)) => ?_)
  refine R_s (P := (0 ≤ (1 : Int) ∧ (1 : Int) < (([some 20, some 29, some 38, some 47, some 56, some 65] : List (Option Nat)).length : Int)) ∧ True) (f' := (18, [some (vR 1), some (vI 1)], [vR 29], LAY (shA A) (shF F), 0, 0)) hc99 5 rfl ⟨(by decide), trivial⟩ ?_
  refine R_reta hc99 rfl rfl ?_
  refine R_s (f' := (5, [some (vR 1), some (vI 1), none], [vR 29], LAY (shA A) (shF F), 0, 0)) hc76 0 rfl trivial ?_
  refine R_s (P := True) (f' := (20, [some (vR 1), some (vI 1), some (vR 29)], [vI 1, vR 29, vR 1], LAY (shA A) (shF F), 0, 0)) hc76 6 rfl trivial ?_
  refine R_cv hc76 rfl rfl (l_now1 hR0 hd hS) (fun r G9 hp9 => ?_)
  obtain ⟨rfl, l8, l9, l10, l11, l75, l76, l77, l78, rfl, k8, k9, k10, k11, k75, k76, k77, k78, v75, v76, v77⟩ := hp9
  refine R_s (f' := (23, [some (vR 1), some (vI 1), some (vR 29)], [], LAY (u (u (u (u (u (u (u (u (shA A) 8 l8) 9 l9) 10 l10) 11 l11) 75 l75) 76 l76) 77 l77) 78 l78) (u (u (shF F) 14 mg) 15 lo), 0, 0)) hc76 0 rfl trivial ?_
  refine R_s (P := True) (f' := (30, [some (vR 1), some (vI 1), some (vR 29)], [vI lo], LAY (u (u (u (u (u (u (u (u (shA A) 8 l8) 9 l9) 10 l10) 11 l11) 75 l75) 76 l76) 77 l77) 78 l78) (u (u (shF F) 14 mg) 15 lo), 0, 0)) hc76 3 rfl trivial ?_
  refine R_reti hc76 rfl rfl ?_
  first
    | (exfalso; omega; done)
    | exact ⟨lo, (u (u (u (u (u (u (u (u A 8 l8) 9 l9) 10 l10) 11 l11) 75 l75) 76 l76) 77 l77) 78 l78), (u (u F 14 mg) 15 lo), ⟨(LENS_u (LENS_u (LENS_u (LENS_u (LENS_u (LENS_u (LENS_u (LENS_u hL (by show (l8).length = (A 8).length; rw [k8, hL 8 (by decide)]; rfl)) (by show (l9).length = (A 9).length; rw [k9, hL 9 (by decide)]; rfl)) (by show (l10).length = (A 10).length; rw [k10, hL 10 (by decide)]; rfl)) (by show (l11).length = (A 11).length; rw [k11, hL 11 (by decide)]; rfl)) (by show (l75).length = (A 75).length; rw [k75, hL 75 (by decide)]; rfl)) (by show (l76).length = (A 76).length; rw [k76, hL 76 (by decide)]; rfl)) (by show (l77).length = (A 77).length; rw [k77, hL 77 (by decide)]; rfl)) (by show (l78).length = (A 78).length; rw [k78, hL 78 (by decide)]; rfl)), hR0.2.1, hR0.2.2.1, hR0.2.2.2.1, hR0.2.2.2.2.1, hR0.2.2.2.2.2.1, hR0.2.2.2.2.2.2.1, hR0.2.2.2.2.2.2.2.1, hR0.2.2.2.2.2.2.2.2.1, (REFU_c hR0.2.2.2.2.2.2.2.2.2)⟩, rfl, rfl, rfl, ⟨(by repeat (first | exact PST_0 | refine PST_A rfl ?_ | refine PST_F rfl ?_)), hlo⟩⟩

theorem op_gets_1 {c : Int} {A : Nat → List Int} {F : Nat → Int} (hR : REL c A F) (hc : c < 1000000) (i : Int) (i_i : inI i) (hd : (1 : Int) < F 0) : R 77 (0, L0 77 [vR 1, vI 1, vI i], [], LAY (shA A) (shF F), 0, 0) (fun r G => ∃ (x : Int) (A' : Nat → List Int) (F' : Nat → Int), REL (c + 1) A' F' ∧ r = some (vI x) ∧ G = LAY (shA A') (shF F') ∧ A' 0 = A 0 ∧ PST A F A' F' ∧ (0 ≤ i → i < F 9 → x = gE A F 1 i.toNat) ∧ (F 9 ≤ i → x = -3)) := by
  have hR0 := hR
  obtain ⟨hL, hPE, hTH, hTP, hDE, hLE, hNO, hAC, hRO, hRE⟩ := hR
  have j_i := i_i
  unfold inI at j_i
  have h87 : (A 87).length = 9 := hL 87 (by decide)
  have r2 := REFU_at hRE (k := 2) (by decide) (by decide) hc
  have r3 := REFU_at hRE (k := 3) (by decide) (by decide) hc
  have r4 := REFU_at hRE (k := 4) (by decide) (by decide) hc
  have r5 := REFU_at hRE (k := 5) (by decide) (by decide) hc
  have r6 := REFU_at hRE (k := 6) (by decide) (by decide) hc
  have r7 := REFU_at hRE (k := 7) (by decide) (by decide) hc
  have r8 := REFU_at hRE (k := 8) (by decide) (by decide) hc
  obtain ⟨t1, t2, t3, t4, t5, t6⟩ := hTH
  obtain ⟨p1, p2, p3, p4, p5, p6⟩ := hPE
  have hD := D_at1 hR0 hd
  have he1 := hD.1.1
  have he2 := hD.1.2.1
  obtain ⟨so, te, tp, mg, pm, lo, hS⟩ := SPL_ex A F (N_al A F) (N_Q A 30) (F 9).toNat (N_Y A F 1)
  have hg := SPL_g (A := A) (F := F) (d := 1) hS
  have hlo : lo = T_lo (F 3).toNat (F 2) (N_Y A F 1) (A 3) (A 4) (N_al A F) (N_Q A 30) (F 9).toNat := by
    obtain ⟨s1, s2, s3, s4, -, -⟩ := hS
    rw [s4, s3, s2, s1]
    rfl
  refine R_s (P := True) (f' := (2, [some (vR 1), some (vI 1), some (vI i), none], [vI 1, vR 1], LAY (shA A) (shF F), 0, 0)) hc77 2 rfl trivial ?_
  refine R_cv hc77 rfl rfl ?_ (fun r G h => h)
  refine R_s (P := True) (f' := (2, [some (vR 1), some (vI 1)], [vI 1, vR 1], LAY (shA A) (shF F), 0, 0)) hc99 2 rfl trivial ?_
  refine R_cv hc99 rfl rfl ?_ (fun r G h => h)
  refine R_s (P := True) (f' := (1, [some (vR 1), some (vI 1)], [vI 1], LAY (shA A) (shF F), 0, 0)) hc98 1 rfl trivial ?_
  refine R_if (t := 16) hc98 rfl rfl (fun (z : 1 < 0) => absurd z (by decide)) (fun (_ : ¬ (1 < 0)) => ?_)
  refine R_s (P := True) (f' := (9, [some (vR 1), some (vI 1)], [vI (F 0), vI 1], LAY (shA A) (shF F), 0, 0)) hc98 3 rfl trivial ?_
  refine R_ic (t := 16) hc98 rfl rfl (fun (z : F 0 ≤ 1) => absurd z (by omega)) (fun (_ : ¬ (F 0 ≤ 1)) => ?_)
  refine R_s (P := True) (f' := (17, [some (vR 1), some (vI 1)], [vI 1], LAY (shA A) (shF F), 0, 0)) hc98 2 rfl trivial ?_
  refine R_retz hc98 rfl rfl (Or.inr rfl) ?_
  refine R_s (f' := (5, [some (vR 1), some (vI 1)], [vI 1], LAY (shA A) (shF F), 0, 0)) hc99 0 rfl trivial ?_
  refine R_if (t := 17) hc99 rfl rfl (fun (z : 1 = 0) => absurd z (by decide)) (fun (_ : ¬ (1 = 0)) => ?_)
  refine R_s (P := (0 ≤ (1 : Int) ∧ (1 : Int) < (([some 20, some 29, some 38, some 47, some 56, some 65] : List (Option Nat)).length : Int)) ∧ True) (f' := (18, [some (vR 1), some (vI 1)], [vR 29], LAY (shA A) (shF F), 0, 0)) hc99 5 rfl ⟨(by decide), trivial⟩ ?_
  refine R_reta hc99 rfl rfl ?_
  refine R_s (f' := (5, [some (vR 1), some (vI 1), some (vI i), none], [vR 29], LAY (shA A) (shF F), 0, 0)) hc77 0 rfl trivial ?_
  refine R_s (P := True) (f' := (12, [some (vR 1), some (vI 1), some (vI i), some (vR 29)], [vI i, vR 29], LAY (shA A) (shF F), 0, 0)) hc77 5 rfl trivial ?_
  refine R_cv hc77 rfl rfl ?_ (fun r G h => h)
  refine R_s (P := True) (f' := (1, [some (vR 29), some (vI i)], [vI i], LAY (shA A) (shF F), 0, 0)) hc1 1 rfl trivial ?_
  refine R_if (t := 16) hc1 rfl rfl (fun (c4 : i < 0) => ?_) (fun (c4 : ¬ (i < 0)) => ?_)
  · refine R_s (P := True) (f' := (17, [some (vR 29), some (vI i)], [vI 0], LAY (shA A) (shF F), 0, 0)) hc1 1 rfl trivial ?_
    refine R_retz hc1 rfl rfl (Or.inl rfl) ?_
    refine R_s (f' := (15, [some (vR 1), some (vI 1), some (vI i), some (vR 29)], [vI 0], LAY (shA A) (shF F), 0, 0)) hc77 0 rfl trivial ?_
    refine R_if (t := 25) hc77 rfl rfl (fun (z : ¬ 0 = 0) => absurd z (by decide)) (fun (_ : ¬ (¬ 0 = 0)) => ?_)
    refine R_s (P := True) (f' := (21, [some (vR 1), some (vI 1), some (vI i), some (vR 29)], [vI (-3), vR 1], LAY (shA A) (shF F), 0, 0)) hc77 2 rfl trivial ?_
    refine R_cv hc77 rfl rfl ?_ (fun r G h => h)
    refine R_s (P := True) (f' := (3, [some (vR 1), some (vI (-3))], [vI (-2), vI (-3)], LAY (shA A) (shF F), 0, 0)) hc93 2 rfl trivial ?_
    refine R_ic (t := 23) hc93 rfl rfl (fun (z : (-2) < (-3)) => absurd z (by decide)) (fun (_ : ¬ ((-2) < (-3))) => ?_)
    refine R_s (P := True) (f' := (9, [some (vR 1), some (vI (-3))], [vI (-8), vI (-3)], LAY (shA A) (shF F), 0, 0)) hc93 2 rfl trivial ?_
    refine R_ic (t := 23) hc93 rfl rfl (fun (z : (-3) < (-8)) => absurd z (by decide)) (fun (_ : ¬ ((-3) < (-8))) => ?_)
    refine R_s (P := inI 3 ∧ (0 ≤ 3 ∧ 3 < ((A 87).length : Int)) ∧ inI ((rd (A 87) 3) + 1) ∧ (0 ≤ 3 ∧ 3 < ((A 87).length : Int)) ∧ True) (f' := (24, [some (vR 1), some (vI (-3))], [vI (-3)], LAY (u (shA A) 87 (wr (A 87) 3 ((rd (A 87) 3) + 1))) (shF F), 0, 0)) hc93 10 rfl ⟨⟨by omega, by omega⟩, ⟨by omega, by omega⟩, ⟨by omega, by omega⟩, ⟨by omega, by omega⟩, trivial⟩ ?_
    refine R_reti hc93 rfl rfl ?_
    refine R_s (f' := (24, [some (vR 1), some (vI 1), some (vI i), some (vR 29)], [vI (-3)], LAY (u (shA A) 87 (wr (A 87) 3 ((rd (A 87) 3) + 1))) (shF F), 0, 0)) hc77 0 rfl trivial ?_
    refine R_reti hc77 rfl rfl ?_
    first
      | (exfalso; omega; done)
      | exact ⟨(-3), (u A 87 (wr (A 87) 3 ((rd (A 87) 3) + 1))), F, REL_ref hR0 (by decide) (by decide), rfl, rfl, rfl, ⟨(by repeat (first | exact PST_0 | refine PST_A rfl ?_ | refine PST_F rfl ?_)), fun q1 q2 => by exfalso; omega, fun q1 => by omega⟩⟩
  · refine R_s (P := True) (f' := (9, [some (vR 29), some (vI i)], [vI (F 9), vI i], LAY (shA A) (shF F), 0, 0)) hc1 3 rfl trivial ?_
    refine R_ic (t := 16) hc1 rfl rfl (fun (c5 : F 9 ≤ i) => ?_) (fun (c5 : ¬ (F 9 ≤ i)) => ?_)
    · refine R_s (P := True) (f' := (17, [some (vR 29), some (vI i)], [vI 0], LAY (shA A) (shF F), 0, 0)) hc1 1 rfl trivial ?_
      refine R_retz hc1 rfl rfl (Or.inl rfl) ?_
      refine R_s (f' := (15, [some (vR 1), some (vI 1), some (vI i), some (vR 29)], [vI 0], LAY (shA A) (shF F), 0, 0)) hc77 0 rfl trivial ?_
      refine R_if (t := 25) hc77 rfl rfl (fun (z : ¬ 0 = 0) => absurd z (by decide)) (fun (_ : ¬ (¬ 0 = 0)) => ?_)
      refine R_s (P := True) (f' := (21, [some (vR 1), some (vI 1), some (vI i), some (vR 29)], [vI (-3), vR 1], LAY (shA A) (shF F), 0, 0)) hc77 2 rfl trivial ?_
      refine R_cv hc77 rfl rfl ?_ (fun r G h => h)
      refine R_s (P := True) (f' := (3, [some (vR 1), some (vI (-3))], [vI (-2), vI (-3)], LAY (shA A) (shF F), 0, 0)) hc93 2 rfl trivial ?_
      refine R_ic (t := 23) hc93 rfl rfl (fun (z : (-2) < (-3)) => absurd z (by decide)) (fun (_ : ¬ ((-2) < (-3))) => ?_)
      refine R_s (P := True) (f' := (9, [some (vR 1), some (vI (-3))], [vI (-8), vI (-3)], LAY (shA A) (shF F), 0, 0)) hc93 2 rfl trivial ?_
      refine R_ic (t := 23) hc93 rfl rfl (fun (z : (-3) < (-8)) => absurd z (by decide)) (fun (_ : ¬ ((-3) < (-8))) => ?_)
      refine R_s (P := inI 3 ∧ (0 ≤ 3 ∧ 3 < ((A 87).length : Int)) ∧ inI ((rd (A 87) 3) + 1) ∧ (0 ≤ 3 ∧ 3 < ((A 87).length : Int)) ∧ True) (f' := (24, [some (vR 1), some (vI (-3))], [vI (-3)], LAY (u (shA A) 87 (wr (A 87) 3 ((rd (A 87) 3) + 1))) (shF F), 0, 0)) hc93 10 rfl ⟨⟨by omega, by omega⟩, ⟨by omega, by omega⟩, ⟨by omega, by omega⟩, ⟨by omega, by omega⟩, trivial⟩ ?_
      refine R_reti hc93 rfl rfl ?_
      refine R_s (f' := (24, [some (vR 1), some (vI 1), some (vI i), some (vR 29)], [vI (-3)], LAY (u (shA A) 87 (wr (A 87) 3 ((rd (A 87) 3) + 1))) (shF F), 0, 0)) hc77 0 rfl trivial ?_
      refine R_reti hc77 rfl rfl ?_
      first
        | (exfalso; omega; done)
        | exact ⟨(-3), (u A 87 (wr (A 87) 3 ((rd (A 87) 3) + 1))), F, REL_ref hR0 (by decide) (by decide), rfl, rfl, rfl, ⟨(by repeat (first | exact PST_0 | refine PST_A rfl ?_ | refine PST_F rfl ?_)), fun q1 q2 => by exfalso; omega, fun q1 => by omega⟩⟩
    · refine R_s (P := True) (f' := (17, [some (vR 29), some (vI i)], [vI 1], LAY (shA A) (shF F), 0, 0)) hc1 2 rfl trivial ?_
      refine R_retz hc1 rfl rfl (Or.inr rfl) ?_
      refine R_s (f' := (15, [some (vR 1), some (vI 1), some (vI i), some (vR 29)], [vI 1], LAY (shA A) (shF F), 0, 0)) hc77 0 rfl trivial ?_
      refine R_if (t := 25) hc77 rfl rfl (fun (_ : ¬ 1 = 0) => ?_) (fun (z : ¬ (¬ 1 = 0)) => absurd (by decide) z)
      refine R_s (P := True) (f' := (28, [some (vR 1), some (vI 1), some (vI i), some (vR 29)], [vI 1, vR 29, vR 1], LAY (shA A) (shF F), 0, 0)) hc77 3 rfl trivial ?_
      refine R_cv hc77 rfl rfl (l_now1 hR0 hd hS) (fun r G9 hp9 => ?_)
      obtain ⟨rfl, l8, l9, l10, l11, l75, l76, l77, l78, rfl, k8, k9, k10, k11, k75, k76, k77, k78, v75, v76, v77⟩ := hp9
      have y76 : 0 ≤ i → i < F 9 → rd l76 i = te (i).toNat := fun q1 q2 => by
        have z := v76 (i).toNat (by omega)
        rw [show ((((i).toNat : Nat)) : Int) = i by omega] at z
        exact z
      refine R_s (f' := (31, [some (vR 1), some (vI 1), some (vI i), some (vR 29)], [], LAY (u (u (u (u (u (u (u (u (shA A) 8 l8) 9 l9) 10 l10) 11 l11) 75 l75) 76 l76) 77 l77) 78 l78) (u (u (shF F) 14 mg) 15 lo), 0, 0)) hc77 0 rfl trivial ?_
      refine R_s (P := (0 ≤ i ∧ i < ((l76).length : Int)) ∧ True) (f' := (40, [some (vR 1), some (vI 1), some (vI i), some (vR 29)], [vI (rd l76 i)], LAY (u (u (u (u (u (u (u (u (shA A) 8 l8) 9 l9) 10 l10) 11 l11) 75 l75) 76 l76) 77 l77) 78 l78) (u (u (shF F) 14 mg) 15 lo), 0, 0)) hc77 5 rfl ⟨⟨by omega, by omega⟩, trivial⟩ ?_
      refine R_reti hc77 rfl rfl ?_
      first
        | (exfalso; omega; done)
        | exact ⟨rd l76 i, (u (u (u (u (u (u (u (u A 8 l8) 9 l9) 10 l10) 11 l11) 75 l75) 76 l76) 77 l77) 78 l78), (u (u F 14 mg) 15 lo), ⟨(LENS_u (LENS_u (LENS_u (LENS_u (LENS_u (LENS_u (LENS_u (LENS_u hL (by show (l8).length = (A 8).length; rw [k8, hL 8 (by decide)]; rfl)) (by show (l9).length = (A 9).length; rw [k9, hL 9 (by decide)]; rfl)) (by show (l10).length = (A 10).length; rw [k10, hL 10 (by decide)]; rfl)) (by show (l11).length = (A 11).length; rw [k11, hL 11 (by decide)]; rfl)) (by show (l75).length = (A 75).length; rw [k75, hL 75 (by decide)]; rfl)) (by show (l76).length = (A 76).length; rw [k76, hL 76 (by decide)]; rfl)) (by show (l77).length = (A 77).length; rw [k77, hL 77 (by decide)]; rfl)) (by show (l78).length = (A 78).length; rw [k78, hL 78 (by decide)]; rfl)), hR0.2.1, hR0.2.2.1, hR0.2.2.2.1, hR0.2.2.2.2.1, hR0.2.2.2.2.2.1, hR0.2.2.2.2.2.2.1, hR0.2.2.2.2.2.2.2.1, hR0.2.2.2.2.2.2.2.2.1, (REFU_c hR0.2.2.2.2.2.2.2.2.2)⟩, rfl, rfl, rfl, ⟨(by repeat (first | exact PST_0 | refine PST_A rfl ?_ | refine PST_F rfl ?_)), fun q1 q2 => by rw [y76 q1 q2]; exact hg.2 _, fun q1 => by exfalso; omega⟩⟩

theorem op_due_1 {c : Int} {A : Nat → List Int} {F : Nat → Int} (hR : REL c A F) (hc : c < 1000000) (p : Int) (i_p : inI p) (hd : (1 : Int) < F 0) : R 78 (0, L0 78 [vR 1, vI 1, vI p], [], LAY (shA A) (shF F), 0, 0) (fun r G => ∃ (x : Int) (A' : Nat → List Int) (F' : Nat → Int), REL (c + 1) A' F' ∧ r = some (vI x) ∧ G = LAY (shA A') (shF F') ∧ A' 0 = A 0 ∧ PST A F A' F' ∧ (0 ≤ p → p < F 3 → x = gP A F 1 p.toNat)) := by
  have hR0 := hR
  obtain ⟨hL, hPE, hTH, hTP, hDE, hLE, hNO, hAC, hRO, hRE⟩ := hR
  have j_p := i_p
  unfold inI at j_p
  have h87 : (A 87).length = 9 := hL 87 (by decide)
  have r2 := REFU_at hRE (k := 2) (by decide) (by decide) hc
  have r3 := REFU_at hRE (k := 3) (by decide) (by decide) hc
  have r4 := REFU_at hRE (k := 4) (by decide) (by decide) hc
  have r5 := REFU_at hRE (k := 5) (by decide) (by decide) hc
  have r6 := REFU_at hRE (k := 6) (by decide) (by decide) hc
  have r7 := REFU_at hRE (k := 7) (by decide) (by decide) hc
  have r8 := REFU_at hRE (k := 8) (by decide) (by decide) hc
  obtain ⟨t1, t2, t3, t4, t5, t6⟩ := hTH
  obtain ⟨p1, p2, p3, p4, p5, p6⟩ := hPE
  have hD := D_at1 hR0 hd
  have he1 := hD.1.1
  have he2 := hD.1.2.1
  obtain ⟨so, te, tp, mg, pm, lo, hS⟩ := SPL_ex A F (N_al A F) (N_Q A 30) (F 9).toNat (N_Y A F 1)
  have hg := SPL_g (A := A) (F := F) (d := 1) hS
  have hlo : lo = T_lo (F 3).toNat (F 2) (N_Y A F 1) (A 3) (A 4) (N_al A F) (N_Q A 30) (F 9).toNat := by
    obtain ⟨s1, s2, s3, s4, -, -⟩ := hS
    rw [s4, s3, s2, s1]
    rfl
  refine R_s (P := True) (f' := (2, [some (vR 1), some (vI 1), some (vI p), none], [vI 1, vR 1], LAY (shA A) (shF F), 0, 0)) hc78 2 rfl trivial ?_
  refine R_cv hc78 rfl rfl ?_ (fun r G h => h)
  refine R_s (P := True) (f' := (2, [some (vR 1), some (vI 1)], [vI 1, vR 1], LAY (shA A) (shF F), 0, 0)) hc99 2 rfl trivial ?_
  refine R_cv hc99 rfl rfl ?_ (fun r G h => h)
  refine R_s (P := True) (f' := (1, [some (vR 1), some (vI 1)], [vI 1], LAY (shA A) (shF F), 0, 0)) hc98 1 rfl trivial ?_
  refine R_if (t := 16) hc98 rfl rfl (fun (z : 1 < 0) => absurd z (by decide)) (fun (_ : ¬ (1 < 0)) => ?_)
  refine R_s (P := True) (f' := (9, [some (vR 1), some (vI 1)], [vI (F 0), vI 1], LAY (shA A) (shF F), 0, 0)) hc98 3 rfl trivial ?_
  refine R_ic (t := 16) hc98 rfl rfl (fun (z : F 0 ≤ 1) => absurd z (by omega)) (fun (_ : ¬ (F 0 ≤ 1)) => ?_)
  refine R_s (P := True) (f' := (17, [some (vR 1), some (vI 1)], [vI 1], LAY (shA A) (shF F), 0, 0)) hc98 2 rfl trivial ?_
  refine R_retz hc98 rfl rfl (Or.inr rfl) ?_
  refine R_s (f' := (5, [some (vR 1), some (vI 1)], [vI 1], LAY (shA A) (shF F), 0, 0)) hc99 0 rfl trivial ?_
  refine R_if (t := 17) hc99 rfl rfl (fun (z : 1 = 0) => absurd z (by decide)) (fun (_ : ¬ (1 = 0)) => ?_)
  refine R_s (P := (0 ≤ (1 : Int) ∧ (1 : Int) < (([some 20, some 29, some 38, some 47, some 56, some 65] : List (Option Nat)).length : Int)) ∧ True) (f' := (18, [some (vR 1), some (vI 1)], [vR 29], LAY (shA A) (shF F), 0, 0)) hc99 5 rfl ⟨(by decide), trivial⟩ ?_
  refine R_reta hc99 rfl rfl ?_
  refine R_s (f' := (5, [some (vR 1), some (vI 1), some (vI p), none], [vR 29], LAY (shA A) (shF F), 0, 0)) hc78 0 rfl trivial ?_
  refine R_s (P := True) (f' := (15, [some (vR 1), some (vI 1), some (vI p), some (vR 29)], [vI p, vR 2], LAY (shA A) (shF F), 0, 0)) hc78 6 rfl trivial ?_
  refine R_cv hc78 rfl rfl ?_ (fun r G h => h)
  refine R_s (P := True) (f' := (1, [some (vR 2), some (vI p)], [vI p], LAY (shA A) (shF F), 0, 0)) hc5 1 rfl trivial ?_
  refine R_if (t := 16) hc5 rfl rfl (fun (c4 : p < 0) => ?_) (fun (c4 : ¬ (p < 0)) => ?_)
  · refine R_s (P := True) (f' := (17, [some (vR 2), some (vI p)], [vI 0], LAY (shA A) (shF F), 0, 0)) hc5 1 rfl trivial ?_
    refine R_retz hc5 rfl rfl (Or.inl rfl) ?_
    refine R_s (f' := (18, [some (vR 1), some (vI 1), some (vI p), some (vR 29)], [vI 0], LAY (shA A) (shF F), 0, 0)) hc78 0 rfl trivial ?_
    refine R_if (t := 28) hc78 rfl rfl (fun (z : ¬ 0 = 0) => absurd z (by decide)) (fun (_ : ¬ (¬ 0 = 0)) => ?_)
    refine R_s (P := True) (f' := (24, [some (vR 1), some (vI 1), some (vI p), some (vR 29)], [vI (-3), vR 1], LAY (shA A) (shF F), 0, 0)) hc78 2 rfl trivial ?_
    refine R_cv hc78 rfl rfl ?_ (fun r G h => h)
    refine R_s (P := True) (f' := (3, [some (vR 1), some (vI (-3))], [vI (-2), vI (-3)], LAY (shA A) (shF F), 0, 0)) hc93 2 rfl trivial ?_
    refine R_ic (t := 23) hc93 rfl rfl (fun (z : (-2) < (-3)) => absurd z (by decide)) (fun (_ : ¬ ((-2) < (-3))) => ?_)
    refine R_s (P := True) (f' := (9, [some (vR 1), some (vI (-3))], [vI (-8), vI (-3)], LAY (shA A) (shF F), 0, 0)) hc93 2 rfl trivial ?_
    refine R_ic (t := 23) hc93 rfl rfl (fun (z : (-3) < (-8)) => absurd z (by decide)) (fun (_ : ¬ ((-3) < (-8))) => ?_)
    refine R_s (P := inI 3 ∧ (0 ≤ 3 ∧ 3 < ((A 87).length : Int)) ∧ inI ((rd (A 87) 3) + 1) ∧ (0 ≤ 3 ∧ 3 < ((A 87).length : Int)) ∧ True) (f' := (24, [some (vR 1), some (vI (-3))], [vI (-3)], LAY (u (shA A) 87 (wr (A 87) 3 ((rd (A 87) 3) + 1))) (shF F), 0, 0)) hc93 10 rfl ⟨⟨by omega, by omega⟩, ⟨by omega, by omega⟩, ⟨by omega, by omega⟩, ⟨by omega, by omega⟩, trivial⟩ ?_
    refine R_reti hc93 rfl rfl ?_
    refine R_s (f' := (27, [some (vR 1), some (vI 1), some (vI p), some (vR 29)], [vI (-3)], LAY (u (shA A) 87 (wr (A 87) 3 ((rd (A 87) 3) + 1))) (shF F), 0, 0)) hc78 0 rfl trivial ?_
    refine R_reti hc78 rfl rfl ?_
    first
      | (exfalso; omega; done)
      | exact ⟨(-3), (u A 87 (wr (A 87) 3 ((rd (A 87) 3) + 1))), F, REL_ref hR0 (by decide) (by decide), rfl, rfl, rfl, ⟨(by repeat (first | exact PST_0 | refine PST_A rfl ?_ | refine PST_F rfl ?_)), fun q1 q2 => by exfalso; omega⟩⟩
  · refine R_s (P := True) (f' := (9, [some (vR 2), some (vI p)], [vI (F 3), vI p], LAY (shA A) (shF F), 0, 0)) hc5 3 rfl trivial ?_
    refine R_ic (t := 16) hc5 rfl rfl (fun (c5 : F 3 ≤ p) => ?_) (fun (c5 : ¬ (F 3 ≤ p)) => ?_)
    · refine R_s (P := True) (f' := (17, [some (vR 2), some (vI p)], [vI 0], LAY (shA A) (shF F), 0, 0)) hc5 1 rfl trivial ?_
      refine R_retz hc5 rfl rfl (Or.inl rfl) ?_
      refine R_s (f' := (18, [some (vR 1), some (vI 1), some (vI p), some (vR 29)], [vI 0], LAY (shA A) (shF F), 0, 0)) hc78 0 rfl trivial ?_
      refine R_if (t := 28) hc78 rfl rfl (fun (z : ¬ 0 = 0) => absurd z (by decide)) (fun (_ : ¬ (¬ 0 = 0)) => ?_)
      refine R_s (P := True) (f' := (24, [some (vR 1), some (vI 1), some (vI p), some (vR 29)], [vI (-3), vR 1], LAY (shA A) (shF F), 0, 0)) hc78 2 rfl trivial ?_
      refine R_cv hc78 rfl rfl ?_ (fun r G h => h)
      refine R_s (P := True) (f' := (3, [some (vR 1), some (vI (-3))], [vI (-2), vI (-3)], LAY (shA A) (shF F), 0, 0)) hc93 2 rfl trivial ?_
      refine R_ic (t := 23) hc93 rfl rfl (fun (z : (-2) < (-3)) => absurd z (by decide)) (fun (_ : ¬ ((-2) < (-3))) => ?_)
      refine R_s (P := True) (f' := (9, [some (vR 1), some (vI (-3))], [vI (-8), vI (-3)], LAY (shA A) (shF F), 0, 0)) hc93 2 rfl trivial ?_
      refine R_ic (t := 23) hc93 rfl rfl (fun (z : (-3) < (-8)) => absurd z (by decide)) (fun (_ : ¬ ((-3) < (-8))) => ?_)
      refine R_s (P := inI 3 ∧ (0 ≤ 3 ∧ 3 < ((A 87).length : Int)) ∧ inI ((rd (A 87) 3) + 1) ∧ (0 ≤ 3 ∧ 3 < ((A 87).length : Int)) ∧ True) (f' := (24, [some (vR 1), some (vI (-3))], [vI (-3)], LAY (u (shA A) 87 (wr (A 87) 3 ((rd (A 87) 3) + 1))) (shF F), 0, 0)) hc93 10 rfl ⟨⟨by omega, by omega⟩, ⟨by omega, by omega⟩, ⟨by omega, by omega⟩, ⟨by omega, by omega⟩, trivial⟩ ?_
      refine R_reti hc93 rfl rfl ?_
      refine R_s (f' := (27, [some (vR 1), some (vI 1), some (vI p), some (vR 29)], [vI (-3)], LAY (u (shA A) 87 (wr (A 87) 3 ((rd (A 87) 3) + 1))) (shF F), 0, 0)) hc78 0 rfl trivial ?_
      refine R_reti hc78 rfl rfl ?_
      first
        | (exfalso; omega; done)
        | exact ⟨(-3), (u A 87 (wr (A 87) 3 ((rd (A 87) 3) + 1))), F, REL_ref hR0 (by decide) (by decide), rfl, rfl, rfl, ⟨(by repeat (first | exact PST_0 | refine PST_A rfl ?_ | refine PST_F rfl ?_)), fun q1 q2 => by exfalso; omega⟩⟩
    · refine R_s (P := True) (f' := (17, [some (vR 2), some (vI p)], [vI 1], LAY (shA A) (shF F), 0, 0)) hc5 2 rfl trivial ?_
      refine R_retz hc5 rfl rfl (Or.inr rfl) ?_
      refine R_s (f' := (18, [some (vR 1), some (vI 1), some (vI p), some (vR 29)], [vI 1], LAY (shA A) (shF F), 0, 0)) hc78 0 rfl trivial ?_
      refine R_if (t := 28) hc78 rfl rfl (fun (_ : ¬ 1 = 0) => ?_) (fun (z : ¬ (¬ 1 = 0)) => absurd (by decide) z)
      refine R_s (P := True) (f' := (31, [some (vR 1), some (vI 1), some (vI p), some (vR 29)], [vI 1, vR 29, vR 1], LAY (shA A) (shF F), 0, 0)) hc78 3 rfl trivial ?_
      refine R_cv hc78 rfl rfl (l_now1 hR0 hd hS) (fun r G9 hp9 => ?_)
      obtain ⟨rfl, l8, l9, l10, l11, l75, l76, l77, l78, rfl, k8, k9, k10, k11, k75, k76, k77, k78, v75, v76, v77⟩ := hp9
      have y77 : 0 ≤ p → p < F 3 → rd l77 p = tp (p).toNat := fun q1 q2 => by
        have z := v77 (p).toNat (by omega)
        rw [show ((((p).toNat : Nat)) : Int) = p by omega] at z
        exact z
      refine R_s (f' := (34, [some (vR 1), some (vI 1), some (vI p), some (vR 29)], [], LAY (u (u (u (u (u (u (u (u (shA A) 8 l8) 9 l9) 10 l10) 11 l11) 75 l75) 76 l76) 77 l77) 78 l78) (u (u (shF F) 14 mg) 15 lo), 0, 0)) hc78 0 rfl trivial ?_
      refine R_s (P := (0 ≤ p ∧ p < ((l77).length : Int)) ∧ True) (f' := (43, [some (vR 1), some (vI 1), some (vI p), some (vR 29)], [vI (rd l77 p)], LAY (u (u (u (u (u (u (u (u (shA A) 8 l8) 9 l9) 10 l10) 11 l11) 75 l75) 76 l76) 77 l77) 78 l78) (u (u (shF F) 14 mg) 15 lo), 0, 0)) hc78 5 rfl ⟨⟨by omega, by omega⟩, trivial⟩ ?_
      refine R_reti hc78 rfl rfl ?_
      first
        | (exfalso; omega; done)
        | exact ⟨rd l77 p, (u (u (u (u (u (u (u (u A 8 l8) 9 l9) 10 l10) 11 l11) 75 l75) 76 l76) 77 l77) 78 l78), (u (u F 14 mg) 15 lo), ⟨(LENS_u (LENS_u (LENS_u (LENS_u (LENS_u (LENS_u (LENS_u (LENS_u hL (by show (l8).length = (A 8).length; rw [k8, hL 8 (by decide)]; rfl)) (by show (l9).length = (A 9).length; rw [k9, hL 9 (by decide)]; rfl)) (by show (l10).length = (A 10).length; rw [k10, hL 10 (by decide)]; rfl)) (by show (l11).length = (A 11).length; rw [k11, hL 11 (by decide)]; rfl)) (by show (l75).length = (A 75).length; rw [k75, hL 75 (by decide)]; rfl)) (by show (l76).length = (A 76).length; rw [k76, hL 76 (by decide)]; rfl)) (by show (l77).length = (A 77).length; rw [k77, hL 77 (by decide)]; rfl)) (by show (l78).length = (A 78).length; rw [k78, hL 78 (by decide)]; rfl)), hR0.2.1, hR0.2.2.1, hR0.2.2.2.1, hR0.2.2.2.2.1, hR0.2.2.2.2.2.1, hR0.2.2.2.2.2.2.1, hR0.2.2.2.2.2.2.2.1, hR0.2.2.2.2.2.2.2.2.1, (REFU_c hR0.2.2.2.2.2.2.2.2.2)⟩, rfl, rfl, rfl, ⟨(by repeat (first | exact PST_0 | refine PST_A rfl ?_ | refine PST_F rfl ?_)), fun q1 q2 => by rw [y77 q1 q2]; exact hg.1 _⟩⟩

set_option maxHeartbeats 4000000 in
theorem op_end_1 {c : Int} {A : Nat → List Int} {F : Nat → Int} (hR : REL c A F) (hc : c < 1000000) (i q : Int) (i_i : inI i) (i_q : inI q) (hd : (1 : Int) < F 0) : R 73 (0, L0 73 [vR 1, vI 1, vI i, vI q], [], LAY (shA A) (shF F), 0, 0) (fun r G => ∃ (x : Int) (A' : Nat → List Int) (F' : Nat → Int), REL (c + 1) A' F' ∧ r = some (vI x) ∧ G = LAY (shA A') (shF F') ∧ A' 0 = A 0 ∧ PST A F A' F' ∧ (i = -1 → q = 0 → x = F 9) ∧ (0 ≤ i → i < F 9 → q = 0 → x = rd (A 30) i)) := by
  have hR0 := hR
  obtain ⟨hL, hPE, hTH, hTP, hDE, hLE, hNO, hAC, hRO, hRE⟩ := hR
  have j_i := i_i
  unfold inI at j_i
  have j_q := i_q
  unfold inI at j_q
  have h87 : (A 87).length = 9 := hL 87 (by decide)
  have r2 := REFU_at hRE (k := 2) (by decide) (by decide) hc
  have r3 := REFU_at hRE (k := 3) (by decide) (by decide) hc
  have r4 := REFU_at hRE (k := 4) (by decide) (by decide) hc
  have r5 := REFU_at hRE (k := 5) (by decide) (by decide) hc
  have r6 := REFU_at hRE (k := 6) (by decide) (by decide) hc
  have r7 := REFU_at hRE (k := 7) (by decide) (by decide) hc
  have r8 := REFU_at hRE (k := 8) (by decide) (by decide) hc
  obtain ⟨t1, t2, t3, t4, t5, t6⟩ := hTH
  obtain ⟨p1, p2, p3, p4, p5, p6⟩ := hPE
  have hD := D_at1 hR0 hd
  have he1 := hD.1.1
  have he2 := hD.1.2.1
  obtain ⟨so, te, tp, mg, pm, lo, hS⟩ := SPL_ex A F (N_al A F) (N_Q A 30) (F 9).toNat (N_Y A F 1)
  have hg := SPL_g (A := A) (F := F) (d := 1) hS
  have hlo : lo = T_lo (F 3).toNat (F 2) (N_Y A F 1) (A 3) (A 4) (N_al A F) (N_Q A 30) (F 9).toNat := by
    obtain ⟨s1, s2, s3, s4, -, -⟩ := hS
    rw [s4, s3, s2, s1]
    rfl
  have hl0 : (A 30).length = 6 := hL 30 (by decide)
  have hl1 : (A 31).length = 6 := hL 31 (by decide)
  have hl2 : (A 32).length = 6 := hL 32 (by decide)
  have hl3 : (A 33).length = 6 := hL 33 (by decide)
  have hl4 : (A 34).length = 6 := hL 34 (by decide)
  refine R_s (P := True) (f' := (2, [some (vR 1), some (vI 1), some (vI i), some (vI q), none, none], [vI 1, vR 1], LAY (shA A) (shF F), 0, 0)) hc73 2 rfl trivial ?_
  refine R_cv hc73 rfl rfl ?_ (fun r G h => h)
  refine R_s (P := True) (f' := (2, [some (vR 1), some (vI 1)], [vI 1, vR 1], LAY (shA A) (shF F), 0, 0)) hc99 2 rfl trivial ?_
  refine R_cv hc99 rfl rfl ?_ (fun r G h => h)
  refine R_s (P := True) (f' := (1, [some (vR 1), some (vI 1)], [vI 1], LAY (shA A) (shF F), 0, 0)) hc98 1 rfl trivial ?_
  refine R_if (t := 16) hc98 rfl rfl (fun (z : 1 < 0) => absurd z (by decide)) (fun (_ : ¬ (1 < 0)) => ?_)
  refine R_s (P := True) (f' := (9, [some (vR 1), some (vI 1)], [vI (F 0), vI 1], LAY (shA A) (shF F), 0, 0)) hc98 3 rfl trivial ?_
  refine R_ic (t := 16) hc98 rfl rfl (fun (z : F 0 ≤ 1) => absurd z (by omega)) (fun (_ : ¬ (F 0 ≤ 1)) => ?_)
  refine R_s (P := True) (f' := (17, [some (vR 1), some (vI 1)], [vI 1], LAY (shA A) (shF F), 0, 0)) hc98 2 rfl trivial ?_
  refine R_retz hc98 rfl rfl (Or.inr rfl) ?_
  refine R_s (f' := (5, [some (vR 1), some (vI 1)], [vI 1], LAY (shA A) (shF F), 0, 0)) hc99 0 rfl trivial ?_
  refine R_if (t := 17) hc99 rfl rfl (fun (z : 1 = 0) => absurd z (by decide)) (fun (_ : ¬ (1 = 0)) => ?_)
  refine R_s (P := (0 ≤ (1 : Int) ∧ (1 : Int) < (([some 20, some 29, some 38, some 47, some 56, some 65] : List (Option Nat)).length : Int)) ∧ True) (f' := (18, [some (vR 1), some (vI 1)], [vR 29], LAY (shA A) (shF F), 0, 0)) hc99 5 rfl ⟨(by decide), trivial⟩ ?_
  refine R_reta hc99 rfl rfl ?_
  refine R_s (f' := (5, [some (vR 1), some (vI 1), some (vI i), some (vI q), none, none], [vR 29], LAY (shA A) (shF F), 0, 0)) hc73 0 rfl trivial ?_
  refine R_s (P := True) (f' := (21, [some (vR 1), some (vI 1), some (vI i), some (vI q), some (vR 29), none], [vI (-1), vI i], LAY (shA A) (shF F), 0, 0)) hc73 5 rfl trivial ?_
  refine R_ic (t := 30) hc73 rfl rfl (fun (c4 : ¬ i = (-1)) => ?_) (fun (c4 : ¬ (¬ i = (-1))) => ?_)
  · refine R_s (P := True) (f' := (33, [some (vR 1), some (vI 1), some (vI i), some (vI q), some (vR 29), none], [vI i, vR 29], LAY (shA A) (shF F), 0, 0)) hc73 2 rfl trivial ?_
    refine R_cv hc73 rfl rfl ?_ (fun r G h => h)
    refine R_s (P := True) (f' := (1, [some (vR 29), some (vI i)], [vI i], LAY (shA A) (shF F), 0, 0)) hc1 1 rfl trivial ?_
    refine R_if (t := 16) hc1 rfl rfl (fun (c5 : i < 0) => ?_) (fun (c5 : ¬ (i < 0)) => ?_)
    · refine R_s (P := True) (f' := (17, [some (vR 29), some (vI i)], [vI 0], LAY (shA A) (shF F), 0, 0)) hc1 1 rfl trivial ?_
      refine R_retz hc1 rfl rfl (Or.inl rfl) ?_
      refine R_s (f' := (36, [some (vR 1), some (vI 1), some (vI i), some (vI q), some (vR 29), none], [vI 0], LAY (shA A) (shF F), 0, 0)) hc73 0 rfl trivial ?_
      refine R_if (t := 46) hc73 rfl rfl (fun (z : ¬ 0 = 0) => absurd z (by decide)) (fun (_ : ¬ (¬ 0 = 0)) => ?_)
      refine R_s (P := True) (f' := (42, [some (vR 1), some (vI 1), some (vI i), some (vI q), some (vR 29), none], [vI (-3), vR 1], LAY (shA A) (shF F), 0, 0)) hc73 2 rfl trivial ?_
      refine R_cv hc73 rfl rfl ?_ (fun r G h => h)
      refine R_s (P := True) (f' := (3, [some (vR 1), some (vI (-3))], [vI (-2), vI (-3)], LAY (shA A) (shF F), 0, 0)) hc93 2 rfl trivial ?_
      refine R_ic (t := 23) hc93 rfl rfl (fun (z : (-2) < (-3)) => absurd z (by decide)) (fun (_ : ¬ ((-2) < (-3))) => ?_)
      refine R_s (P := True) (f' := (9, [some (vR 1), some (vI (-3))], [vI (-8), vI (-3)], LAY (shA A) (shF F), 0, 0)) hc93 2 rfl trivial ?_
      refine R_ic (t := 23) hc93 rfl rfl (fun (z : (-3) < (-8)) => absurd z (by decide)) (fun (_ : ¬ ((-3) < (-8))) => ?_)
      refine R_s (P := inI 3 ∧ (0 ≤ 3 ∧ 3 < ((A 87).length : Int)) ∧ inI ((rd (A 87) 3) + 1) ∧ (0 ≤ 3 ∧ 3 < ((A 87).length : Int)) ∧ True) (f' := (24, [some (vR 1), some (vI (-3))], [vI (-3)], LAY (u (shA A) 87 (wr (A 87) 3 ((rd (A 87) 3) + 1))) (shF F), 0, 0)) hc93 10 rfl ⟨⟨by omega, by omega⟩, ⟨by omega, by omega⟩, ⟨by omega, by omega⟩, ⟨by omega, by omega⟩, trivial⟩ ?_
      refine R_reti hc93 rfl rfl ?_
      refine R_s (f' := (45, [some (vR 1), some (vI 1), some (vI i), some (vI q), some (vR 29), none], [vI (-3)], LAY (u (shA A) 87 (wr (A 87) 3 ((rd (A 87) 3) + 1))) (shF F), 0, 0)) hc73 0 rfl trivial ?_
      refine R_reti hc73 rfl rfl ?_
      first
        | (exfalso; omega; done)
        | exact ⟨(-3), (u A 87 (wr (A 87) 3 ((rd (A 87) 3) + 1))), F, REL_ref hR0 (by decide) (by decide), rfl, rfl, rfl, ⟨(by repeat (first | exact PST_0 | refine PST_A rfl ?_ | refine PST_F rfl ?_)), fun q1 q2 => by first | rfl | (exfalso; omega), fun q1 q2 q3 => by first | rfl | (exfalso; omega)⟩⟩
    · refine R_s (P := True) (f' := (9, [some (vR 29), some (vI i)], [vI (F 9), vI i], LAY (shA A) (shF F), 0, 0)) hc1 3 rfl trivial ?_
      refine R_ic (t := 16) hc1 rfl rfl (fun (c6 : F 9 ≤ i) => ?_) (fun (c6 : ¬ (F 9 ≤ i)) => ?_)
      · refine R_s (P := True) (f' := (17, [some (vR 29), some (vI i)], [vI 0], LAY (shA A) (shF F), 0, 0)) hc1 1 rfl trivial ?_
        refine R_retz hc1 rfl rfl (Or.inl rfl) ?_
        refine R_s (f' := (36, [some (vR 1), some (vI 1), some (vI i), some (vI q), some (vR 29), none], [vI 0], LAY (shA A) (shF F), 0, 0)) hc73 0 rfl trivial ?_
        refine R_if (t := 46) hc73 rfl rfl (fun (z : ¬ 0 = 0) => absurd z (by decide)) (fun (_ : ¬ (¬ 0 = 0)) => ?_)
        refine R_s (P := True) (f' := (42, [some (vR 1), some (vI 1), some (vI i), some (vI q), some (vR 29), none], [vI (-3), vR 1], LAY (shA A) (shF F), 0, 0)) hc73 2 rfl trivial ?_
        refine R_cv hc73 rfl rfl ?_ (fun r G h => h)
        refine R_s (P := True) (f' := (3, [some (vR 1), some (vI (-3))], [vI (-2), vI (-3)], LAY (shA A) (shF F), 0, 0)) hc93 2 rfl trivial ?_
        refine R_ic (t := 23) hc93 rfl rfl (fun (z : (-2) < (-3)) => absurd z (by decide)) (fun (_ : ¬ ((-2) < (-3))) => ?_)
        refine R_s (P := True) (f' := (9, [some (vR 1), some (vI (-3))], [vI (-8), vI (-3)], LAY (shA A) (shF F), 0, 0)) hc93 2 rfl trivial ?_
        refine R_ic (t := 23) hc93 rfl rfl (fun (z : (-3) < (-8)) => absurd z (by decide)) (fun (_ : ¬ ((-3) < (-8))) => ?_)
        refine R_s (P := inI 3 ∧ (0 ≤ 3 ∧ 3 < ((A 87).length : Int)) ∧ inI ((rd (A 87) 3) + 1) ∧ (0 ≤ 3 ∧ 3 < ((A 87).length : Int)) ∧ True) (f' := (24, [some (vR 1), some (vI (-3))], [vI (-3)], LAY (u (shA A) 87 (wr (A 87) 3 ((rd (A 87) 3) + 1))) (shF F), 0, 0)) hc93 10 rfl ⟨⟨by omega, by omega⟩, ⟨by omega, by omega⟩, ⟨by omega, by omega⟩, ⟨by omega, by omega⟩, trivial⟩ ?_
        refine R_reti hc93 rfl rfl ?_
        refine R_s (f' := (45, [some (vR 1), some (vI 1), some (vI i), some (vI q), some (vR 29), none], [vI (-3)], LAY (u (shA A) 87 (wr (A 87) 3 ((rd (A 87) 3) + 1))) (shF F), 0, 0)) hc73 0 rfl trivial ?_
        refine R_reti hc73 rfl rfl ?_
        first
          | (exfalso; omega; done)
          | exact ⟨(-3), (u A 87 (wr (A 87) 3 ((rd (A 87) 3) + 1))), F, REL_ref hR0 (by decide) (by decide), rfl, rfl, rfl, ⟨(by repeat (first | exact PST_0 | refine PST_A rfl ?_ | refine PST_F rfl ?_)), fun q1 q2 => by first | rfl | (exfalso; omega), fun q1 q2 q3 => by first | rfl | (exfalso; omega)⟩⟩
      · refine R_s (P := True) (f' := (17, [some (vR 29), some (vI i)], [vI 1], LAY (shA A) (shF F), 0, 0)) hc1 2 rfl trivial ?_
        refine R_retz hc1 rfl rfl (Or.inr rfl) ?_
        refine R_s (f' := (36, [some (vR 1), some (vI 1), some (vI i), some (vI q), some (vR 29), none], [vI 1], LAY (shA A) (shF F), 0, 0)) hc73 0 rfl trivial ?_
        refine R_if (t := 46) hc73 rfl rfl (fun (_ : ¬ 1 = 0) => ?_) (fun (z : ¬ (¬ 1 = 0)) => absurd (by decide) z)
        refine R_s (P := (0 ≤ i ∧ i < ((A 30).length : Int)) ∧ True) (f' := (56, [some (vR 1), some (vI 1), some (vI i), some (vI q), some (vR 29), some (vI (rd (A 30) i))], [vI q], LAY (shA A) (shF F), 0, 0)) hc73 6 rfl ⟨⟨by omega, by omega⟩, trivial⟩ ?_
        refine R_sw (t := 225) hc73 rfl (by decide) (fun isw o hio (c8 : q = 0 + isw) => ?_) rfl (fun (c8 : q < 0 ∨ 5 < q) => ?_)
        · match isw, hio, c8 with
          | 0, hio, c8 =>
            cases hio
            refine R_s (f' := (96, [some (vR 1), some (vI 1), some (vI i), some (vI q), some (vR 29), some (vI (rd (A 30) i))], [], LAY (shA A) (shF F), 0, 0)) hc73 0 rfl trivial ?_
            refine R_s (P := True) (f' := (98, [some (vR 1), some (vI 1), some (vI i), some (vI q), some (vR 29), some (vI (rd (A 30) i))], [vI (rd (A 30) i)], LAY (shA A) (shF F), 0, 0)) hc73 1 rfl trivial ?_
            refine R_reti hc73 rfl rfl ?_
            first
              | (exfalso; omega; done)
              | exact ⟨rd (A 30) i, A, F, REL_c hR0, rfl, rfl, rfl, ⟨(by repeat (first | exact PST_0 | refine PST_A rfl ?_ | refine PST_F rfl ?_)), fun q1 q2 => by first | rfl | (exfalso; omega), fun q1 q2 q3 => by first | rfl | (exfalso; omega)⟩⟩
          | 1, hio, c8 =>
            cases hio
            refine R_s (f' := (99, [some (vR 1), some (vI 1), some (vI i), some (vI q), some (vR 29), some (vI (rd (A 30) i))], [], LAY (shA A) (shF F), 0, 0)) hc73 0 rfl trivial ?_
            refine R_s (P := True) (f' := (102, [some (vR 1), some (vI 1), some (vI i), some (vI q), some (vR 29), some (vI (rd (A 30) i))], [vI 3, vI (rd (A 30) i)], LAY (shA A) (shF F), 0, 0)) hc73 2 rfl trivial ?_
            refine R_ic (t := 114) hc73 rfl rfl (fun (c9 : ¬ rd (A 30) i = 3) => ?_) (fun (c9 : ¬ (¬ rd (A 30) i = 3)) => ?_)
            · refine R_s (P := (0 ≤ i ∧ i < ((A 31).length : Int)) ∧ True) (f' := (121, [some (vR 1), some (vI 1), some (vI i), some (vI q), some (vR 29), some (vI (rd (A 30) i))], [vI (rd (A 31) i)], LAY (shA A) (shF F), 0, 0)) hc73 4 rfl ⟨⟨by omega, by omega⟩, trivial⟩ ?_
              refine R_reti hc73 rfl rfl ?_
              first
                | (exfalso; omega; done)
                | exact ⟨rd (A 31) i, A, F, REL_c hR0, rfl, rfl, rfl, ⟨(by repeat (first | exact PST_0 | refine PST_A rfl ?_ | refine PST_F rfl ?_)), fun q1 q2 => by first | rfl | (exfalso; omega), fun q1 q2 q3 => by first | rfl | (exfalso; omega)⟩⟩
            · refine R_s (P := True) (f' := (108, [some (vR 1), some (vI 1), some (vI i), some (vI q), some (vR 29), some (vI (rd (A 30) i))], [vI (-5), vR 1], LAY (shA A) (shF F), 0, 0)) hc73 2 rfl trivial ?_
              refine R_cv hc73 rfl rfl ?_ (fun r G h => h)
              refine R_s (P := True) (f' := (3, [some (vR 1), some (vI (-5))], [vI (-2), vI (-5)], LAY (shA A) (shF F), 0, 0)) hc93 2 rfl trivial ?_
              refine R_ic (t := 23) hc93 rfl rfl (fun (z : (-2) < (-5)) => absurd z (by decide)) (fun (_ : ¬ ((-2) < (-5))) => ?_)
              refine R_s (P := True) (f' := (9, [some (vR 1), some (vI (-5))], [vI (-8), vI (-5)], LAY (shA A) (shF F), 0, 0)) hc93 2 rfl trivial ?_
              refine R_ic (t := 23) hc93 rfl rfl (fun (z : (-5) < (-8)) => absurd z (by decide)) (fun (_ : ¬ ((-5) < (-8))) => ?_)
              refine R_s (P := inI 5 ∧ (0 ≤ 5 ∧ 5 < ((A 87).length : Int)) ∧ inI ((rd (A 87) 5) + 1) ∧ (0 ≤ 5 ∧ 5 < ((A 87).length : Int)) ∧ True) (f' := (24, [some (vR 1), some (vI (-5))], [vI (-5)], LAY (u (shA A) 87 (wr (A 87) 5 ((rd (A 87) 5) + 1))) (shF F), 0, 0)) hc93 10 rfl ⟨⟨by omega, by omega⟩, ⟨by omega, by omega⟩, ⟨by omega, by omega⟩, ⟨by omega, by omega⟩, trivial⟩ ?_
              refine R_reti hc93 rfl rfl ?_
              refine R_s (f' := (111, [some (vR 1), some (vI 1), some (vI i), some (vI q), some (vR 29), some (vI (rd (A 30) i))], [vI (-5)], LAY (u (shA A) 87 (wr (A 87) 5 ((rd (A 87) 5) + 1))) (shF F), 0, 0)) hc73 0 rfl trivial ?_
              refine R_s (P := True) (f' := (121, [some (vR 1), some (vI 1), some (vI i), some (vI q), some (vR 29), some (vI (rd (A 30) i))], [vI (-5)], LAY (u (shA A) 87 (wr (A 87) 5 ((rd (A 87) 5) + 1))) (shF F), 0, 0)) hc73 1 rfl trivial ?_
              refine R_reti hc73 rfl rfl ?_
              first
                | (exfalso; omega; done)
                | exact ⟨(-5), (u A 87 (wr (A 87) 5 ((rd (A 87) 5) + 1))), F, REL_ref hR0 (by decide) (by decide), rfl, rfl, rfl, ⟨(by repeat (first | exact PST_0 | refine PST_A rfl ?_ | refine PST_F rfl ?_)), fun q1 q2 => by first | rfl | (exfalso; omega), fun q1 q2 q3 => by first | rfl | (exfalso; omega)⟩⟩
          | 2, hio, c8 =>
            cases hio
            refine R_s (f' := (122, [some (vR 1), some (vI 1), some (vI i), some (vI q), some (vR 29), some (vI (rd (A 30) i))], [], LAY (shA A) (shF F), 0, 0)) hc73 0 rfl trivial ?_
            refine R_s (P := True) (f' := (125, [some (vR 1), some (vI 1), some (vI i), some (vI q), some (vR 29), some (vI (rd (A 30) i))], [vI 1, vI (rd (A 30) i)], LAY (shA A) (shF F), 0, 0)) hc73 2 rfl trivial ?_
            refine R_ic (t := 134) hc73 rfl rfl (fun (c12 : rd (A 30) i = 1) => ?_) (fun (c12 : ¬ (rd (A 30) i = 1)) => ?_)
            · refine R_s (P := (0 ≤ i ∧ i < ((A 32).length : Int)) ∧ True) (f' := (150, [some (vR 1), some (vI 1), some (vI i), some (vI q), some (vR 29), some (vI (rd (A 30) i))], [vI (rd (A 32) i)], LAY (shA A) (shF F), 0, 0)) hc73 5 rfl ⟨⟨by omega, by omega⟩, trivial⟩ ?_
              refine R_reti hc73 rfl rfl ?_
              first
                | (exfalso; omega; done)
                | exact ⟨rd (A 32) i, A, F, REL_c hR0, rfl, rfl, rfl, ⟨(by repeat (first | exact PST_0 | refine PST_A rfl ?_ | refine PST_F rfl ?_)), fun q1 q2 => by first | rfl | (exfalso; omega), fun q1 q2 q3 => by first | rfl | (exfalso; omega)⟩⟩
            · refine R_s (P := True) (f' := (131, [some (vR 1), some (vI 1), some (vI i), some (vI q), some (vR 29), some (vI (rd (A 30) i))], [vI 2, vI (rd (A 30) i)], LAY (shA A) (shF F), 0, 0)) hc73 2 rfl trivial ?_
              refine R_ic (t := 144) hc73 rfl rfl (fun (c13 : ¬ rd (A 30) i = 2) => ?_) (fun (c13 : ¬ (¬ rd (A 30) i = 2)) => ?_)
              · refine R_s (P := True) (f' := (147, [some (vR 1), some (vI 1), some (vI i), some (vI q), some (vR 29), some (vI (rd (A 30) i))], [vI (-5), vR 1], LAY (shA A) (shF F), 0, 0)) hc73 2 rfl trivial ?_
                refine R_cv hc73 rfl rfl ?_ (fun r G h => h)
                refine R_s (P := True) (f' := (3, [some (vR 1), some (vI (-5))], [vI (-2), vI (-5)], LAY (shA A) (shF F), 0, 0)) hc93 2 rfl trivial ?_
                refine R_ic (t := 23) hc93 rfl rfl (fun (z : (-2) < (-5)) => absurd z (by decide)) (fun (_ : ¬ ((-2) < (-5))) => ?_)
                refine R_s (P := True) (f' := (9, [some (vR 1), some (vI (-5))], [vI (-8), vI (-5)], LAY (shA A) (shF F), 0, 0)) hc93 2 rfl trivial ?_
                refine R_ic (t := 23) hc93 rfl rfl (fun (z : (-5) < (-8)) => absurd z (by decide)) (fun (_ : ¬ ((-5) < (-8))) => ?_)
                refine R_s (P := inI 5 ∧ (0 ≤ 5 ∧ 5 < ((A 87).length : Int)) ∧ inI ((rd (A 87) 5) + 1) ∧ (0 ≤ 5 ∧ 5 < ((A 87).length : Int)) ∧ True) (f' := (24, [some (vR 1), some (vI (-5))], [vI (-5)], LAY (u (shA A) 87 (wr (A 87) 5 ((rd (A 87) 5) + 1))) (shF F), 0, 0)) hc93 10 rfl ⟨⟨by omega, by omega⟩, ⟨by omega, by omega⟩, ⟨by omega, by omega⟩, ⟨by omega, by omega⟩, trivial⟩ ?_
                refine R_reti hc93 rfl rfl ?_
                refine R_s (f' := (150, [some (vR 1), some (vI 1), some (vI i), some (vI q), some (vR 29), some (vI (rd (A 30) i))], [vI (-5)], LAY (u (shA A) 87 (wr (A 87) 5 ((rd (A 87) 5) + 1))) (shF F), 0, 0)) hc73 0 rfl trivial ?_
                refine R_reti hc73 rfl rfl ?_
                first
                  | (exfalso; omega; done)
                  | exact ⟨(-5), (u A 87 (wr (A 87) 5 ((rd (A 87) 5) + 1))), F, REL_ref hR0 (by decide) (by decide), rfl, rfl, rfl, ⟨(by repeat (first | exact PST_0 | refine PST_A rfl ?_ | refine PST_F rfl ?_)), fun q1 q2 => by first | rfl | (exfalso; omega), fun q1 q2 q3 => by first | rfl | (exfalso; omega)⟩⟩
              · refine R_s (P := (0 ≤ i ∧ i < ((A 32).length : Int)) ∧ True) (f' := (150, [some (vR 1), some (vI 1), some (vI i), some (vI q), some (vR 29), some (vI (rd (A 30) i))], [vI (rd (A 32) i)], LAY (shA A) (shF F), 0, 0)) hc73 5 rfl ⟨⟨by omega, by omega⟩, trivial⟩ ?_
                refine R_reti hc73 rfl rfl ?_
                first
                  | (exfalso; omega; done)
                  | exact ⟨rd (A 32) i, A, F, REL_c hR0, rfl, rfl, rfl, ⟨(by repeat (first | exact PST_0 | refine PST_A rfl ?_ | refine PST_F rfl ?_)), fun q1 q2 => by first | rfl | (exfalso; omega), fun q1 q2 q3 => by first | rfl | (exfalso; omega)⟩⟩
          | 3, hio, c8 =>
            cases hio
            refine R_s (f' := (151, [some (vR 1), some (vI 1), some (vI i), some (vI q), some (vR 29), some (vI (rd (A 30) i))], [], LAY (shA A) (shF F), 0, 0)) hc73 0 rfl trivial ?_
            refine R_s (P := True) (f' := (153, [some (vR 1), some (vI 1), some (vI i), some (vI q), some (vR 29), some (vI (rd (A 30) i))], [vI (rd (A 30) i)], LAY (shA A) (shF F), 0, 0)) hc73 1 rfl trivial ?_
            refine R_if (t := 162) hc73 rfl rfl (fun (c16 : rd (A 30) i = 0) => ?_) (fun (c16 : ¬ (rd (A 30) i = 0)) => ?_)
            · refine R_s (P := (0 ≤ i ∧ i < ((A 33).length : Int)) ∧ True) (f' := (178, [some (vR 1), some (vI 1), some (vI i), some (vI q), some (vR 29), some (vI (rd (A 30) i))], [vI (rd (A 33) i)], LAY (shA A) (shF F), 0, 0)) hc73 5 rfl ⟨⟨by omega, by omega⟩, trivial⟩ ?_
              refine R_reti hc73 rfl rfl ?_
              first
                | (exfalso; omega; done)
                | exact ⟨rd (A 33) i, A, F, REL_c hR0, rfl, rfl, rfl, ⟨(by repeat (first | exact PST_0 | refine PST_A rfl ?_ | refine PST_F rfl ?_)), fun q1 q2 => by first | rfl | (exfalso; omega), fun q1 q2 q3 => by first | rfl | (exfalso; omega)⟩⟩
            · refine R_s (P := True) (f' := (159, [some (vR 1), some (vI 1), some (vI i), some (vI q), some (vR 29), some (vI (rd (A 30) i))], [vI 3, vI (rd (A 30) i)], LAY (shA A) (shF F), 0, 0)) hc73 2 rfl trivial ?_
              refine R_ic (t := 172) hc73 rfl rfl (fun (c17 : ¬ rd (A 30) i = 3) => ?_) (fun (c17 : ¬ (¬ rd (A 30) i = 3)) => ?_)
              · refine R_s (P := True) (f' := (175, [some (vR 1), some (vI 1), some (vI i), some (vI q), some (vR 29), some (vI (rd (A 30) i))], [vI (-5), vR 1], LAY (shA A) (shF F), 0, 0)) hc73 2 rfl trivial ?_
                refine R_cv hc73 rfl rfl ?_ (fun r G h => h)
                refine R_s (P := True) (f' := (3, [some (vR 1), some (vI (-5))], [vI (-2), vI (-5)], LAY (shA A) (shF F), 0, 0)) hc93 2 rfl trivial ?_
                refine R_ic (t := 23) hc93 rfl rfl (fun (z : (-2) < (-5)) => absurd z (by decide)) (fun (_ : ¬ ((-2) < (-5))) => ?_)
                refine R_s (P := True) (f' := (9, [some (vR 1), some (vI (-5))], [vI (-8), vI (-5)], LAY (shA A) (shF F), 0, 0)) hc93 2 rfl trivial ?_
                refine R_ic (t := 23) hc93 rfl rfl (fun (z : (-5) < (-8)) => absurd z (by decide)) (fun (_ : ¬ ((-5) < (-8))) => ?_)
                refine R_s (P := inI 5 ∧ (0 ≤ 5 ∧ 5 < ((A 87).length : Int)) ∧ inI ((rd (A 87) 5) + 1) ∧ (0 ≤ 5 ∧ 5 < ((A 87).length : Int)) ∧ True) (f' := (24, [some (vR 1), some (vI (-5))], [vI (-5)], LAY (u (shA A) 87 (wr (A 87) 5 ((rd (A 87) 5) + 1))) (shF F), 0, 0)) hc93 10 rfl ⟨⟨by omega, by omega⟩, ⟨by omega, by omega⟩, ⟨by omega, by omega⟩, ⟨by omega, by omega⟩, trivial⟩ ?_
                refine R_reti hc93 rfl rfl ?_
                refine R_s (f' := (178, [some (vR 1), some (vI 1), some (vI i), some (vI q), some (vR 29), some (vI (rd (A 30) i))], [vI (-5)], LAY (u (shA A) 87 (wr (A 87) 5 ((rd (A 87) 5) + 1))) (shF F), 0, 0)) hc73 0 rfl trivial ?_
                refine R_reti hc73 rfl rfl ?_
                first
                  | (exfalso; omega; done)
                  | exact ⟨(-5), (u A 87 (wr (A 87) 5 ((rd (A 87) 5) + 1))), F, REL_ref hR0 (by decide) (by decide), rfl, rfl, rfl, ⟨(by repeat (first | exact PST_0 | refine PST_A rfl ?_ | refine PST_F rfl ?_)), fun q1 q2 => by first | rfl | (exfalso; omega), fun q1 q2 q3 => by first | rfl | (exfalso; omega)⟩⟩
              · refine R_s (P := (0 ≤ i ∧ i < ((A 33).length : Int)) ∧ True) (f' := (178, [some (vR 1), some (vI 1), some (vI i), some (vI q), some (vR 29), some (vI (rd (A 30) i))], [vI (rd (A 33) i)], LAY (shA A) (shF F), 0, 0)) hc73 5 rfl ⟨⟨by omega, by omega⟩, trivial⟩ ?_
                refine R_reti hc73 rfl rfl ?_
                first
                  | (exfalso; omega; done)
                  | exact ⟨rd (A 33) i, A, F, REL_c hR0, rfl, rfl, rfl, ⟨(by repeat (first | exact PST_0 | refine PST_A rfl ?_ | refine PST_F rfl ?_)), fun q1 q2 => by first | rfl | (exfalso; omega), fun q1 q2 q3 => by first | rfl | (exfalso; omega)⟩⟩
          | 4, hio, c8 =>
            cases hio
            refine R_s (f' := (179, [some (vR 1), some (vI 1), some (vI i), some (vI q), some (vR 29), some (vI (rd (A 30) i))], [], LAY (shA A) (shF F), 0, 0)) hc73 0 rfl trivial ?_
            refine R_s (P := True) (f' := (182, [some (vR 1), some (vI 1), some (vI i), some (vI q), some (vR 29), some (vI (rd (A 30) i))], [vI 1, vI (rd (A 30) i)], LAY (shA A) (shF F), 0, 0)) hc73 2 rfl trivial ?_
            refine R_ic (t := 198) hc73 rfl rfl (fun (c20 : ¬ rd (A 30) i = 1) => ?_) (fun (c20 : ¬ (¬ rd (A 30) i = 1)) => ?_)
            · refine R_s (P := True) (f' := (201, [some (vR 1), some (vI 1), some (vI i), some (vI q), some (vR 29), some (vI (rd (A 30) i))], [vI (-5), vR 1], LAY (shA A) (shF F), 0, 0)) hc73 2 rfl trivial ?_
              refine R_cv hc73 rfl rfl ?_ (fun r G h => h)
              refine R_s (P := True) (f' := (3, [some (vR 1), some (vI (-5))], [vI (-2), vI (-5)], LAY (shA A) (shF F), 0, 0)) hc93 2 rfl trivial ?_
              refine R_ic (t := 23) hc93 rfl rfl (fun (z : (-2) < (-5)) => absurd z (by decide)) (fun (_ : ¬ ((-2) < (-5))) => ?_)
              refine R_s (P := True) (f' := (9, [some (vR 1), some (vI (-5))], [vI (-8), vI (-5)], LAY (shA A) (shF F), 0, 0)) hc93 2 rfl trivial ?_
              refine R_ic (t := 23) hc93 rfl rfl (fun (z : (-5) < (-8)) => absurd z (by decide)) (fun (_ : ¬ ((-5) < (-8))) => ?_)
              refine R_s (P := inI 5 ∧ (0 ≤ 5 ∧ 5 < ((A 87).length : Int)) ∧ inI ((rd (A 87) 5) + 1) ∧ (0 ≤ 5 ∧ 5 < ((A 87).length : Int)) ∧ True) (f' := (24, [some (vR 1), some (vI (-5))], [vI (-5)], LAY (u (shA A) 87 (wr (A 87) 5 ((rd (A 87) 5) + 1))) (shF F), 0, 0)) hc93 10 rfl ⟨⟨by omega, by omega⟩, ⟨by omega, by omega⟩, ⟨by omega, by omega⟩, ⟨by omega, by omega⟩, trivial⟩ ?_
              refine R_reti hc93 rfl rfl ?_
              refine R_s (f' := (204, [some (vR 1), some (vI 1), some (vI i), some (vI q), some (vR 29), some (vI (rd (A 30) i))], [vI (-5)], LAY (u (shA A) 87 (wr (A 87) 5 ((rd (A 87) 5) + 1))) (shF F), 0, 0)) hc73 0 rfl trivial ?_
              refine R_reti hc73 rfl rfl ?_
              first
                | (exfalso; omega; done)
                | exact ⟨(-5), (u A 87 (wr (A 87) 5 ((rd (A 87) 5) + 1))), F, REL_ref hR0 (by decide) (by decide), rfl, rfl, rfl, ⟨(by repeat (first | exact PST_0 | refine PST_A rfl ?_ | refine PST_F rfl ?_)), fun q1 q2 => by first | rfl | (exfalso; omega), fun q1 q2 q3 => by first | rfl | (exfalso; omega)⟩⟩
            · refine R_s (P := (0 ≤ i ∧ i < ((A 34).length : Int)) ∧ True) (f' := (192, [some (vR 1), some (vI 1), some (vI i), some (vI q), some (vR 29), some (vI (rd (A 30) i))], [vI (rd (A 34) i)], LAY (shA A) (shF F), 0, 0)) hc73 4 rfl ⟨⟨by omega, by omega⟩, trivial⟩ ?_
              refine R_cs hc73 rfl rfl ?_ (fun r G h => h)
              refine R_s (P := True) (f' := (1, [some (vI (rd (A 34) i))], [vI (rd (A 34) i)], LAY (shA A) (shF F), 0, 0)) hc95 1 rfl trivial ?_
              refine R_if (t := 8) hc95 rfl rfl (fun (c23 : rd (A 34) i = 0) => ?_) (fun (c23 : ¬ (rd (A 34) i = 0)) => ?_)
              · refine R_s (P := True) (f' := (9, [some (vI (rd (A 34) i))], [vI 0], LAY (shA A) (shF F), 0, 0)) hc95 1 rfl trivial ?_
                refine R_reti hc95 rfl rfl ?_
                refine R_s (f' := (195, [some (vR 1), some (vI 1), some (vI i), some (vI q), some (vR 29), some (vI (rd (A 30) i))], [vI 0], LAY (shA A) (shF F), 0, 0)) hc73 0 rfl trivial ?_
                refine R_s (P := True) (f' := (204, [some (vR 1), some (vI 1), some (vI i), some (vI q), some (vR 29), some (vI (rd (A 30) i))], [vI 0], LAY (shA A) (shF F), 0, 0)) hc73 1 rfl trivial ?_
                refine R_reti hc73 rfl rfl ?_
                first
                  | (exfalso; omega; done)
                  | exact ⟨0, A, F, REL_c hR0, rfl, rfl, rfl, ⟨(by repeat (first | exact PST_0 | refine PST_A rfl ?_ | refine PST_F rfl ?_)), fun q1 q2 => by first | rfl | (exfalso; omega), fun q1 q2 q3 => by first | rfl | (exfalso; omega)⟩⟩
              · refine R_s (P := True) (f' := (9, [some (vI (rd (A 34) i))], [vI 1], LAY (shA A) (shF F), 0, 0)) hc95 2 rfl trivial ?_
                refine R_reti hc95 rfl rfl ?_
                refine R_s (f' := (195, [some (vR 1), some (vI 1), some (vI i), some (vI q), some (vR 29), some (vI (rd (A 30) i))], [vI 1], LAY (shA A) (shF F), 0, 0)) hc73 0 rfl trivial ?_
                refine R_s (P := True) (f' := (204, [some (vR 1), some (vI 1), some (vI i), some (vI q), some (vR 29), some (vI (rd (A 30) i))], [vI 1], LAY (shA A) (shF F), 0, 0)) hc73 1 rfl trivial ?_
                refine R_reti hc73 rfl rfl ?_
                first
                  | (exfalso; omega; done)
                  | exact ⟨1, A, F, REL_c hR0, rfl, rfl, rfl, ⟨(by repeat (first | exact PST_0 | refine PST_A rfl ?_ | refine PST_F rfl ?_)), fun q1 q2 => by first | rfl | (exfalso; omega), fun q1 q2 q3 => by first | rfl | (exfalso; omega)⟩⟩
          | 5, hio, c8 =>
            cases hio
            refine R_s (f' := (205, [some (vR 1), some (vI 1), some (vI i), some (vI q), some (vR 29), some (vI (rd (A 30) i))], [], LAY (shA A) (shF F), 0, 0)) hc73 0 rfl trivial ?_
            refine R_s (P := True) (f' := (209, [some (vR 1), some (vI 1), some (vI i), some (vI q), some (vR 29), some (vI (rd (A 30) i))], [vI 1, vR 29, vR 1], LAY (shA A) (shF F), 0, 0)) hc73 3 rfl trivial ?_
            refine R_cv hc73 rfl rfl (l_now1 hR0 hd hS) (fun r G9 hp9 => ?_)
            obtain ⟨rfl, l8, l9, l10, l11, l75, l76, l77, l78, rfl, k8, k9, k10, k11, k75, k76, k77, k78, v75, v76, v77⟩ := hp9
            have y75 : 0 ≤ i → i < F 9 → rd l75 i = so (i).toNat := fun q1 q2 => by
              have z := v75 (i).toNat (by omega)
              rw [show ((((i).toNat : Nat)) : Int) = i by omega] at z
              exact z
            refine R_s (f' := (212, [some (vR 1), some (vI 1), some (vI i), some (vI q), some (vR 29), some (vI (rd (A 30) i))], [], LAY (u (u (u (u (u (u (u (u (shA A) 8 l8) 9 l9) 10 l10) 11 l11) 75 l75) 76 l76) 77 l77) 78 l78) (u (u (shF F) 14 mg) 15 lo), 0, 0)) hc73 0 rfl trivial ?_
            refine R_s (P := (0 ≤ i ∧ i < ((l75).length : Int)) ∧ True) (f' := (221, [some (vR 1), some (vI 1), some (vI i), some (vI q), some (vR 29), some (vI (rd (A 30) i))], [vI (rd l75 i)], LAY (u (u (u (u (u (u (u (u (shA A) 8 l8) 9 l9) 10 l10) 11 l11) 75 l75) 76 l76) 77 l77) 78 l78) (u (u (shF F) 14 mg) 15 lo), 0, 0)) hc73 5 rfl ⟨⟨by omega, by omega⟩, trivial⟩ ?_
            refine R_cs hc73 rfl rfl ?_ (fun r G h => h)
            refine R_s (P := True) (f' := (1, [some (vI (rd l75 i))], [vI (rd l75 i)], LAY (u (u (u (u (u (u (u (u (shA A) 8 l8) 9 l9) 10 l10) 11 l11) 75 l75) 76 l76) 77 l77) 78 l78) (u (u (shF F) 14 mg) 15 lo), 0, 0)) hc95 1 rfl trivial ?_
            refine R_if (t := 8) hc95 rfl rfl (fun (c24 : rd l75 i = 0) => ?_) (fun (c24 : ¬ (rd l75 i = 0)) => ?_)
            · refine R_s (P := True) (f' := (9, [some (vI (rd l75 i))], [vI 0], LAY (u (u (u (u (u (u (u (u (shA A) 8 l8) 9 l9) 10 l10) 11 l11) 75 l75) 76 l76) 77 l77) 78 l78) (u (u (shF F) 14 mg) 15 lo), 0, 0)) hc95 1 rfl trivial ?_
              refine R_reti hc95 rfl rfl ?_
              refine R_s (f' := (224, [some (vR 1), some (vI 1), some (vI i), some (vI q), some (vR 29), some (vI (rd (A 30) i))], [vI 0], LAY (u (u (u (u (u (u (u (u (shA A) 8 l8) 9 l9) 10 l10) 11 l11) 75 l75) 76 l76) 77 l77) 78 l78) (u (u (shF F) 14 mg) 15 lo), 0, 0)) hc73 0 rfl trivial ?_
              refine R_reti hc73 rfl rfl ?_
              first
                | (exfalso; omega; done)
                | exact ⟨0, (u (u (u (u (u (u (u (u A 8 l8) 9 l9) 10 l10) 11 l11) 75 l75) 76 l76) 77 l77) 78 l78), (u (u F 14 mg) 15 lo), ⟨(LENS_u (LENS_u (LENS_u (LENS_u (LENS_u (LENS_u (LENS_u (LENS_u hL (by show (l8).length = (A 8).length; rw [k8, hL 8 (by decide)]; rfl)) (by show (l9).length = (A 9).length; rw [k9, hL 9 (by decide)]; rfl)) (by show (l10).length = (A 10).length; rw [k10, hL 10 (by decide)]; rfl)) (by show (l11).length = (A 11).length; rw [k11, hL 11 (by decide)]; rfl)) (by show (l75).length = (A 75).length; rw [k75, hL 75 (by decide)]; rfl)) (by show (l76).length = (A 76).length; rw [k76, hL 76 (by decide)]; rfl)) (by show (l77).length = (A 77).length; rw [k77, hL 77 (by decide)]; rfl)) (by show (l78).length = (A 78).length; rw [k78, hL 78 (by decide)]; rfl)), hR0.2.1, hR0.2.2.1, hR0.2.2.2.1, hR0.2.2.2.2.1, hR0.2.2.2.2.2.1, hR0.2.2.2.2.2.2.1, hR0.2.2.2.2.2.2.2.1, hR0.2.2.2.2.2.2.2.2.1, (REFU_c hR0.2.2.2.2.2.2.2.2.2)⟩, rfl, rfl, rfl, ⟨(by repeat (first | exact PST_0 | refine PST_A rfl ?_ | refine PST_F rfl ?_)), fun q1 q2 => by first | rfl | (exfalso; omega), fun q1 q2 q3 => by first | rfl | (exfalso; omega)⟩⟩
            · refine R_s (P := True) (f' := (9, [some (vI (rd l75 i))], [vI 1], LAY (u (u (u (u (u (u (u (u (shA A) 8 l8) 9 l9) 10 l10) 11 l11) 75 l75) 76 l76) 77 l77) 78 l78) (u (u (shF F) 14 mg) 15 lo), 0, 0)) hc95 2 rfl trivial ?_
              refine R_reti hc95 rfl rfl ?_
              refine R_s (f' := (224, [some (vR 1), some (vI 1), some (vI i), some (vI q), some (vR 29), some (vI (rd (A 30) i))], [vI 1], LAY (u (u (u (u (u (u (u (u (shA A) 8 l8) 9 l9) 10 l10) 11 l11) 75 l75) 76 l76) 77 l77) 78 l78) (u (u (shF F) 14 mg) 15 lo), 0, 0)) hc73 0 rfl trivial ?_
              refine R_reti hc73 rfl rfl ?_
              first
                | (exfalso; omega; done)
                | exact ⟨1, (u (u (u (u (u (u (u (u A 8 l8) 9 l9) 10 l10) 11 l11) 75 l75) 76 l76) 77 l77) 78 l78), (u (u F 14 mg) 15 lo), ⟨(LENS_u (LENS_u (LENS_u (LENS_u (LENS_u (LENS_u (LENS_u (LENS_u hL (by show (l8).length = (A 8).length; rw [k8, hL 8 (by decide)]; rfl)) (by show (l9).length = (A 9).length; rw [k9, hL 9 (by decide)]; rfl)) (by show (l10).length = (A 10).length; rw [k10, hL 10 (by decide)]; rfl)) (by show (l11).length = (A 11).length; rw [k11, hL 11 (by decide)]; rfl)) (by show (l75).length = (A 75).length; rw [k75, hL 75 (by decide)]; rfl)) (by show (l76).length = (A 76).length; rw [k76, hL 76 (by decide)]; rfl)) (by show (l77).length = (A 77).length; rw [k77, hL 77 (by decide)]; rfl)) (by show (l78).length = (A 78).length; rw [k78, hL 78 (by decide)]; rfl)), hR0.2.1, hR0.2.2.1, hR0.2.2.2.1, hR0.2.2.2.2.1, hR0.2.2.2.2.2.1, hR0.2.2.2.2.2.2.1, hR0.2.2.2.2.2.2.2.1, hR0.2.2.2.2.2.2.2.2.1, (REFU_c hR0.2.2.2.2.2.2.2.2.2)⟩, rfl, rfl, rfl, ⟨(by repeat (first | exact PST_0 | refine PST_A rfl ?_ | refine PST_F rfl ?_)), fun q1 q2 => by first | rfl | (exfalso; omega), fun q1 q2 q3 => by first | rfl | (exfalso; omega)⟩⟩
          | isw + 6, hio, c8 => exact absurd hio (by simp)
        · rcases c8 with c8 | c8
          · refine R_s (P := True) (f' := (228, [some (vR 1), some (vI 1), some (vI i), some (vI q), some (vR 29), some (vI (rd (A 30) i))], [vI (-7), vR 1], LAY (shA A) (shF F), 0, 0)) hc73 2 rfl trivial ?_
            refine R_cv hc73 rfl rfl ?_ (fun r G h => h)
            refine R_s (P := True) (f' := (3, [some (vR 1), some (vI (-7))], [vI (-2), vI (-7)], LAY (shA A) (shF F), 0, 0)) hc93 2 rfl trivial ?_
            refine R_ic (t := 23) hc93 rfl rfl (fun (z : (-2) < (-7)) => absurd z (by decide)) (fun (_ : ¬ ((-2) < (-7))) => ?_)
            refine R_s (P := True) (f' := (9, [some (vR 1), some (vI (-7))], [vI (-8), vI (-7)], LAY (shA A) (shF F), 0, 0)) hc93 2 rfl trivial ?_
            refine R_ic (t := 23) hc93 rfl rfl (fun (z : (-7) < (-8)) => absurd z (by decide)) (fun (_ : ¬ ((-7) < (-8))) => ?_)
            refine R_s (P := inI 7 ∧ (0 ≤ 7 ∧ 7 < ((A 87).length : Int)) ∧ inI ((rd (A 87) 7) + 1) ∧ (0 ≤ 7 ∧ 7 < ((A 87).length : Int)) ∧ True) (f' := (24, [some (vR 1), some (vI (-7))], [vI (-7)], LAY (u (shA A) 87 (wr (A 87) 7 ((rd (A 87) 7) + 1))) (shF F), 0, 0)) hc93 10 rfl ⟨⟨by omega, by omega⟩, ⟨by omega, by omega⟩, ⟨by omega, by omega⟩, ⟨by omega, by omega⟩, trivial⟩ ?_
            refine R_reti hc93 rfl rfl ?_
            refine R_s (f' := (231, [some (vR 1), some (vI 1), some (vI i), some (vI q), some (vR 29), some (vI (rd (A 30) i))], [vI (-7)], LAY (u (shA A) 87 (wr (A 87) 7 ((rd (A 87) 7) + 1))) (shF F), 0, 0)) hc73 0 rfl trivial ?_
            refine R_reti hc73 rfl rfl ?_
            first
              | (exfalso; omega; done)
              | exact ⟨(-7), (u A 87 (wr (A 87) 7 ((rd (A 87) 7) + 1))), F, REL_ref hR0 (by decide) (by decide), rfl, rfl, rfl, ⟨(by repeat (first | exact PST_0 | refine PST_A rfl ?_ | refine PST_F rfl ?_)), fun q1 q2 => by first | rfl | (exfalso; omega), fun q1 q2 q3 => by first | rfl | (exfalso; omega)⟩⟩
          · refine R_s (P := True) (f' := (228, [some (vR 1), some (vI 1), some (vI i), some (vI q), some (vR 29), some (vI (rd (A 30) i))], [vI (-7), vR 1], LAY (shA A) (shF F), 0, 0)) hc73 2 rfl trivial ?_
            refine R_cv hc73 rfl rfl ?_ (fun r G h => h)
            refine R_s (P := True) (f' := (3, [some (vR 1), some (vI (-7))], [vI (-2), vI (-7)], LAY (shA A) (shF F), 0, 0)) hc93 2 rfl trivial ?_
            refine R_ic (t := 23) hc93 rfl rfl (fun (z : (-2) < (-7)) => absurd z (by decide)) (fun (_ : ¬ ((-2) < (-7))) => ?_)
            refine R_s (P := True) (f' := (9, [some (vR 1), some (vI (-7))], [vI (-8), vI (-7)], LAY (shA A) (shF F), 0, 0)) hc93 2 rfl trivial ?_
            refine R_ic (t := 23) hc93 rfl rfl (fun (z : (-7) < (-8)) => absurd z (by decide)) (fun (_ : ¬ ((-7) < (-8))) => ?_)
            refine R_s (P := inI 7 ∧ (0 ≤ 7 ∧ 7 < ((A 87).length : Int)) ∧ inI ((rd (A 87) 7) + 1) ∧ (0 ≤ 7 ∧ 7 < ((A 87).length : Int)) ∧ True) (f' := (24, [some (vR 1), some (vI (-7))], [vI (-7)], LAY (u (shA A) 87 (wr (A 87) 7 ((rd (A 87) 7) + 1))) (shF F), 0, 0)) hc93 10 rfl ⟨⟨by omega, by omega⟩, ⟨by omega, by omega⟩, ⟨by omega, by omega⟩, ⟨by omega, by omega⟩, trivial⟩ ?_
            refine R_reti hc93 rfl rfl ?_
            refine R_s (f' := (231, [some (vR 1), some (vI 1), some (vI i), some (vI q), some (vR 29), some (vI (rd (A 30) i))], [vI (-7)], LAY (u (shA A) 87 (wr (A 87) 7 ((rd (A 87) 7) + 1))) (shF F), 0, 0)) hc73 0 rfl trivial ?_
            refine R_reti hc73 rfl rfl ?_
            first
              | (exfalso; omega; done)
              | exact ⟨(-7), (u A 87 (wr (A 87) 7 ((rd (A 87) 7) + 1))), F, REL_ref hR0 (by decide) (by decide), rfl, rfl, rfl, ⟨(by repeat (first | exact PST_0 | refine PST_A rfl ?_ | refine PST_F rfl ?_)), fun q1 q2 => by first | rfl | (exfalso; omega), fun q1 q2 q3 => by first | rfl | (exfalso; omega)⟩⟩
  · refine R_s (P := True) (f' := (29, [some (vR 1), some (vI 1), some (vI i), some (vI q), some (vR 29), none], [vI (F 9)], LAY (shA A) (shF F), 0, 0)) hc73 2 rfl trivial ?_
    refine R_reti hc73 rfl rfl ?_
    first
      | (exfalso; omega; done)
      | exact ⟨F 9, A, F, REL_c hR0, rfl, rfl, rfl, ⟨(by repeat (first | exact PST_0 | refine PST_A rfl ?_ | refine PST_F rfl ?_)), fun q1 q2 => by first | rfl | (exfalso; omega), fun q1 q2 q3 => by first | rfl | (exfalso; omega)⟩⟩

theorem op_yields_1 {c : Int} {A : Nat → List Int} {F : Nat → Int} (hR : REL c A F) (hc : c < 1000000) (hd : (1 : Int) < F 0) : R 74 (0, L0 74 [vR 1, vI 1], [], LAY (shA A) (shF F), 0, 0) (fun r G => ∃ (x : Int) (A' : Nat → List Int) (F' : Nat → Int), REL (c + 1) A' F' ∧ r = some (vI x) ∧ G = LAY (shA A') (shF F') ∧ A' 0 = A 0 ∧ PST A F A' F' ∧ x = N_Y A F 1) := by
  have hR0 := hR
  obtain ⟨hL, hPE, hTH, hTP, hDE, hLE, hNO, hAC, hRO, hRE⟩ := hR
  have h87 : (A 87).length = 9 := hL 87 (by decide)
  have r2 := REFU_at hRE (k := 2) (by decide) (by decide) hc
  have r3 := REFU_at hRE (k := 3) (by decide) (by decide) hc
  have r4 := REFU_at hRE (k := 4) (by decide) (by decide) hc
  have r5 := REFU_at hRE (k := 5) (by decide) (by decide) hc
  have r6 := REFU_at hRE (k := 6) (by decide) (by decide) hc
  have r7 := REFU_at hRE (k := 7) (by decide) (by decide) hc
  have r8 := REFU_at hRE (k := 8) (by decide) (by decide) hc
  obtain ⟨t1, t2, t3, t4, t5, t6⟩ := hTH
  obtain ⟨p1, p2, p3, p4, p5, p6⟩ := hPE
  refine R_s (P := True) (f' := (2, [some (vR 1), some (vI 1)], [vI 1, vR 1], LAY (shA A) (shF F), 0, 0)) hc74 2 rfl trivial ?_
  refine R_cv hc74 rfl rfl ?_ (fun r G h => h)
  refine R_s (P := True) (f' := (1, [some (vR 1), some (vI 1)], [vI 1], LAY (shA A) (shF F), 0, 0)) hc98 1 rfl trivial ?_
  refine R_if (t := 16) hc98 rfl rfl (fun (z : 1 < 0) => absurd z (by decide)) (fun (_ : ¬ (1 < 0)) => ?_)
  refine R_s (P := True) (f' := (9, [some (vR 1), some (vI 1)], [vI (F 0), vI 1], LAY (shA A) (shF F), 0, 0)) hc98 3 rfl trivial ?_
  refine R_ic (t := 16) hc98 rfl rfl (fun (z : F 0 ≤ 1) => absurd z (by omega)) (fun (_ : ¬ (F 0 ≤ 1)) => ?_)
  refine R_s (P := True) (f' := (17, [some (vR 1), some (vI 1)], [vI 1], LAY (shA A) (shF F), 0, 0)) hc98 2 rfl trivial ?_
  refine R_retz hc98 rfl rfl (Or.inr rfl) ?_
  refine R_s (f' := (5, [some (vR 1), some (vI 1)], [vI 1], LAY (shA A) (shF F), 0, 0)) hc74 0 rfl trivial ?_
  refine R_if (t := 15) hc74 rfl rfl (fun (_ : ¬ 1 = 0) => ?_) (fun (z : ¬ (¬ 1 = 0)) => absurd (by decide) z)
  refine R_s (P := True) (f' := (20, [some (vR 1), some (vI 1)], [vI 1, vR 12], LAY (shA A) (shF F), 0, 0)) hc74 3 rfl trivial ?_
  refine R_cv hc74 rfl rfl (l_yieldC (A := (shA A)) (F := (shF F)) (LENS_sh hL) ⟨t1, t2⟩ 1 (by decide) (fun i hi => R_prod hR0 (d := 1) (by decide) i hi)) (fun r G9 hp9 => ?_)
  obtain ⟨e1, rfl⟩ := hp9
  have e2 : r = some (vI (N_Y A F 1)) := e1
  clear e1
  subst e2
  refine R_s (f' := (23, [some (vR 1), some (vI 1)], [vI (N_Y A F 1)], LAY (shA A) (shF F), 0, 0)) hc74 0 rfl trivial ?_
  refine R_reti hc74 rfl rfl ?_
  first
    | (exfalso; omega; done)
    | exact ⟨N_Y A F 1, A, F, REL_c hR0, rfl, rfl, rfl, ⟨(by repeat (first | exact PST_0 | refine PST_A rfl ?_ | refine PST_F rfl ?_)), rfl⟩⟩

set_option maxHeartbeats 4000000 in
theorem op_count {c : Int} {A : Nat → List Int} {F : Nat → Int} (hR : REL c A F) (hc : c < 1000000) (q : Int) (i_q : inI q) : R 87 (0, L0 87 [vR 1, vI q], [], LAY (shA A) (shF F), 0, 0) (fun r G => ∃ (x : Int) (A' : Nat → List Int) (F' : Nat → Int), REL (c + 1) A' F' ∧ r = some (vI x) ∧ G = LAY (shA A') (shF F') ∧ A' 0 = A 0 ∧ PST A F A' F' ∧ (q = 1 → x = F 3)) := by
  have hR0 := hR
  obtain ⟨hL, hPE, hTH, hTP, hDE, hLE, hNO, hAC, hRO, hRE⟩ := hR
  have j_q := i_q
  unfold inI at j_q
  have h87 : (A 87).length = 9 := hL 87 (by decide)
  have r2 := REFU_at hRE (k := 2) (by decide) (by decide) hc
  have r3 := REFU_at hRE (k := 3) (by decide) (by decide) hc
  have r4 := REFU_at hRE (k := 4) (by decide) (by decide) hc
  have r5 := REFU_at hRE (k := 5) (by decide) (by decide) hc
  have r6 := REFU_at hRE (k := 6) (by decide) (by decide) hc
  have r7 := REFU_at hRE (k := 7) (by decide) (by decide) hc
  have r8 := REFU_at hRE (k := 8) (by decide) (by decide) hc
  obtain ⟨t1, t2, t3, t4, t5, t6⟩ := hTH
  obtain ⟨p1, p2, p3, p4, p5, p6⟩ := hPE
  refine R_s (P := True) (f' := (1, [some (vR 1), some (vI q)], [vI q], LAY (shA A) (shF F), 0, 0)) hc87 1 rfl trivial ?_
  refine R_sw (t := 118) hc87 rfl (by decide) (fun isw o hio (c1 : q = 0 + isw) => ?_) rfl (fun (c1 : q < 0 ∨ 7 < q) => ?_)
  · match isw, hio, c1 with
    | 0, hio, c1 =>
      cases hio
      refine R_s (f' := (48, [some (vR 1), some (vI q)], [], LAY (shA A) (shF F), 0, 0)) hc87 0 rfl trivial ?_
      refine R_s (P := True) (f' := (52, [some (vR 1), some (vI q)], [vI (F 2)], LAY (shA A) (shF F), 0, 0)) hc87 2 rfl trivial ?_
      refine R_reti hc87 rfl rfl ?_
      first
        | (exfalso; omega; done)
        | exact ⟨F 2, A, F, REL_c hR0, rfl, rfl, rfl, ⟨(by repeat (first | exact PST_0 | refine PST_A rfl ?_ | refine PST_F rfl ?_)), fun q1 => by first | rfl | (exfalso; omega)⟩⟩
    | 1, hio, c1 =>
      cases hio
      refine R_s (f' := (53, [some (vR 1), some (vI q)], [], LAY (shA A) (shF F), 0, 0)) hc87 0 rfl trivial ?_
      refine R_s (P := True) (f' := (60, [some (vR 1), some (vI q)], [vI (F 3)], LAY (shA A) (shF F), 0, 0)) hc87 3 rfl trivial ?_
      refine R_reti hc87 rfl rfl ?_
      first
        | (exfalso; omega; done)
        | exact ⟨F 3, A, F, REL_c hR0, rfl, rfl, rfl, ⟨(by repeat (first | exact PST_0 | refine PST_A rfl ?_ | refine PST_F rfl ?_)), fun q1 => by first | rfl | (exfalso; omega)⟩⟩
    | 2, hio, c1 =>
      cases hio
      refine R_s (f' := (61, [some (vR 1), some (vI q)], [], LAY (shA A) (shF F), 0, 0)) hc87 0 rfl trivial ?_
      refine R_s (P := True) (f' := (68, [some (vR 1), some (vI q)], [vI (F 4)], LAY (shA A) (shF F), 0, 0)) hc87 3 rfl trivial ?_
      refine R_reti hc87 rfl rfl ?_
      first
        | (exfalso; omega; done)
        | exact ⟨F 4, A, F, REL_c hR0, rfl, rfl, rfl, ⟨(by repeat (first | exact PST_0 | refine PST_A rfl ?_ | refine PST_F rfl ?_)), fun q1 => by first | rfl | (exfalso; omega)⟩⟩
    | 3, hio, c1 =>
      cases hio
      refine R_s (f' := (69, [some (vR 1), some (vI q)], [], LAY (shA A) (shF F), 0, 0)) hc87 0 rfl trivial ?_
      refine R_s (P := True) (f' := (73, [some (vR 1), some (vI q)], [vI (F 0)], LAY (shA A) (shF F), 0, 0)) hc87 2 rfl trivial ?_
      refine R_reti hc87 rfl rfl ?_
      first
        | (exfalso; omega; done)
        | exact ⟨F 0, A, F, REL_c hR0, rfl, rfl, rfl, ⟨(by repeat (first | exact PST_0 | refine PST_A rfl ?_ | refine PST_F rfl ?_)), fun q1 => by first | rfl | (exfalso; omega)⟩⟩
    | 4, hio, c1 =>
      cases hio
      refine R_s (f' := (74, [some (vR 1), some (vI q)], [], LAY (shA A) (shF F), 0, 0)) hc87 0 rfl trivial ?_
      refine R_s (P := True) (f' := (81, [some (vR 1), some (vI q)], [vI (F 5)], LAY (shA A) (shF F), 0, 0)) hc87 3 rfl trivial ?_
      refine R_reti hc87 rfl rfl ?_
      first
        | (exfalso; omega; done)
        | exact ⟨F 5, A, F, REL_c hR0, rfl, rfl, rfl, ⟨(by repeat (first | exact PST_0 | refine PST_A rfl ?_ | refine PST_F rfl ?_)), fun q1 => by first | rfl | (exfalso; omega)⟩⟩
    | 5, hio, c1 =>
      cases hio
      refine R_s (f' := (82, [some (vR 1), some (vI q)], [], LAY (shA A) (shF F), 0, 0)) hc87 0 rfl trivial ?_
      refine R_s (P := True) (f' := (91, [some (vR 1), some (vI q)], [vI (-1), vI (F 2), vR 2], LAY (shA A) (shF F), 0, 0)) hc87 5 rfl trivial ?_
      refine R_cv hc87 rfl rfl (l_wakeT (A := shA A) (F := shF F) (n := (F 3).toNat) (al := N_al A F) (LENS_sh hL) (R_n hR0) (R_n30 hR0) (R_TR (A := A) hR0) (R_U (A := A) hR0) (R_T (A := A) hR0) (fun p _ => rfl)) (fun r G9 hp9 => ?_)
      obtain ⟨rfl, l8, l9, l10, rfl, k8, k9, k10, hw⟩ := hp9
      refine R_s (f' := (94, [some (vR 1), some (vI q)], [], LAY (u (u (u (shA A) 8 l8) 9 l9) 10 l10) (shF F), 0, 0)) hc87 0 rfl trivial ?_
      refine R_s (P := True) (f' := (98, [some (vR 1), some (vI q)], [vR 2], LAY (u (u (u (shA A) 8 l8) 9 l9) 10 l10) (shF F), 0, 0)) hc87 2 rfl trivial ?_
      refine R_cv hc87 rfl rfl (l_aliveCount (A := (u (u (u (shA A) 8 l8) 9 l9) 10 l10)) (F := (shF F)) (LENS_u (LENS_u (LENS_u (LENS_sh hL) (by show (l8).length = (A 8).length; rw [k8, hL 8 (by decide)]; rfl)) (by show (l9).length = (A 9).length; rw [k9, hL 9 (by decide)]; rfl)) (by show (l10).length = (A 10).length; rw [k10, hL 10 (by decide)]; rfl)) ⟨p1, p2⟩) (fun r G9 hp9 => ?_)
      obtain ⟨e1, rfl⟩ := hp9
      have e3 : r = some (vI (sm (fun i : Nat => if rd l8 i = 0 then 0 else 1) (F 3).toNat)) := e1
      clear e1
      subst e3
      refine R_s (f' := (101, [some (vR 1), some (vI q)], [vI (sm (fun i : Nat => if rd l8 i = 0 then 0 else 1) (F 3).toNat)], LAY (u (u (u (shA A) 8 l8) 9 l9) 10 l10) (shF F), 0, 0)) hc87 0 rfl trivial ?_
      refine R_reti hc87 rfl rfl ?_
      first
        | (exfalso; omega; done)
        | exact ⟨sm (fun i : Nat => if rd l8 i = 0 then 0 else 1) (F 3).toNat, (u (u (u A 8 l8) 9 l9) 10 l10), F, ⟨(LENS_u (LENS_u (LENS_u hL (by show (l8).length = (A 8).length; rw [k8, hL 8 (by decide)]; rfl)) (by show (l9).length = (A 9).length; rw [k9, hL 9 (by decide)]; rfl)) (by show (l10).length = (A 10).length; rw [k10, hL 10 (by decide)]; rfl)), hR0.2.1, hR0.2.2.1, hR0.2.2.2.1, hR0.2.2.2.2.1, hR0.2.2.2.2.2.1, hR0.2.2.2.2.2.2.1, hR0.2.2.2.2.2.2.2.1, hR0.2.2.2.2.2.2.2.2.1, (REFU_c hR0.2.2.2.2.2.2.2.2.2)⟩, rfl, rfl, rfl, ⟨(by repeat (first | exact PST_0 | refine PST_A rfl ?_ | refine PST_F rfl ?_)), fun q1 => by first | rfl | (exfalso; omega)⟩⟩
    | 6, hio, c1 =>
      cases hio
      refine R_s (f' := (102, [some (vR 1), some (vI q)], [], LAY (shA A) (shF F), 0, 0)) hc87 0 rfl trivial ?_
      refine R_s (P := True) (f' := (106, [some (vR 1), some (vI q)], [vR 79], LAY (shA A) (shF F), 0, 0)) hc87 2 rfl trivial ?_
      refine R_cv hc87 rfl rfl (l_holding (A := (shA A)) (F := (shF F)) (LENS_sh hL) ⟨hLE.1.1, hLE.1.2.1⟩) (fun r G9 hp9 => ?_)
      obtain ⟨rfl, rfl⟩ := hp9
      refine R_s (f' := (109, [some (vR 1), some (vI q)], [vI (sm (fun i => if rd (A 83) i = 0 then 0 else 1) (F 16).toNat)], LAY (shA A) (shF F), 0, 0)) hc87 0 rfl trivial ?_
      refine R_reti hc87 rfl rfl ?_
      first
        | (exfalso; omega; done)
        | exact ⟨sm (fun i => if rd (A 83) i = 0 then 0 else 1) (F 16).toNat, A, F, REL_c hR0, rfl, rfl, rfl, ⟨(by repeat (first | exact PST_0 | refine PST_A rfl ?_ | refine PST_F rfl ?_)), fun q1 => by first | rfl | (exfalso; omega)⟩⟩
    | 7, hio, c1 =>
      cases hio
      refine R_s (f' := (110, [some (vR 1), some (vI q)], [], LAY (shA A) (shF F), 0, 0)) hc87 0 rfl trivial ?_
      refine R_s (P := True) (f' := (114, [some (vR 1), some (vI q)], [vR 2], LAY (shA A) (shF F), 0, 0)) hc87 2 rfl trivial ?_
      refine R_cv hc87 rfl rfl (l_unsure (A := (shA A)) (F := (shF F)) (LENS_sh hL) ⟨p1, p2⟩) (fun r G9 hp9 => ?_)
      obtain ⟨rfl, rfl⟩ := hp9
      refine R_s (f' := (117, [some (vR 1), some (vI q)], [vI (sm (fun i => if rd (A 6) i = 0 then 0 else 1) (F 3).toNat)], LAY (shA A) (shF F), 0, 0)) hc87 0 rfl trivial ?_
      refine R_reti hc87 rfl rfl ?_
      first
        | (exfalso; omega; done)
        | exact ⟨sm (fun i => if rd (A 6) i = 0 then 0 else 1) (F 3).toNat, A, F, REL_c hR0, rfl, rfl, rfl, ⟨(by repeat (first | exact PST_0 | refine PST_A rfl ?_ | refine PST_F rfl ?_)), fun q1 => by first | rfl | (exfalso; omega)⟩⟩
    | isw + 8, hio, c1 => exact absurd hio (by simp)
  · refine R_s (P := True) (f' := (121, [some (vR 1), some (vI q)], [vI (-7), vR 1], LAY (shA A) (shF F), 0, 0)) hc87 2 rfl trivial ?_
    refine R_cv hc87 rfl rfl ?_ (fun r G h => h)
    refine R_s (P := True) (f' := (3, [some (vR 1), some (vI (-7))], [vI (-2), vI (-7)], LAY (shA A) (shF F), 0, 0)) hc93 2 rfl trivial ?_
    refine R_ic (t := 23) hc93 rfl rfl (fun (z : (-2) < (-7)) => absurd z (by decide)) (fun (_ : ¬ ((-2) < (-7))) => ?_)
    refine R_s (P := True) (f' := (9, [some (vR 1), some (vI (-7))], [vI (-8), vI (-7)], LAY (shA A) (shF F), 0, 0)) hc93 2 rfl trivial ?_
    refine R_ic (t := 23) hc93 rfl rfl (fun (z : (-7) < (-8)) => absurd z (by decide)) (fun (_ : ¬ ((-7) < (-8))) => ?_)
    refine R_s (P := inI 7 ∧ (0 ≤ 7 ∧ 7 < ((A 87).length : Int)) ∧ inI ((rd (A 87) 7) + 1) ∧ (0 ≤ 7 ∧ 7 < ((A 87).length : Int)) ∧ True) (f' := (24, [some (vR 1), some (vI (-7))], [vI (-7)], LAY (u (shA A) 87 (wr (A 87) 7 ((rd (A 87) 7) + 1))) (shF F), 0, 0)) hc93 10 rfl ⟨⟨by omega, by omega⟩, ⟨by omega, by omega⟩, ⟨by omega, by omega⟩, ⟨by omega, by omega⟩, trivial⟩ ?_
    refine R_reti hc93 rfl rfl ?_
    refine R_s (f' := (124, [some (vR 1), some (vI q)], [vI (-7)], LAY (u (shA A) 87 (wr (A 87) 7 ((rd (A 87) 7) + 1))) (shF F), 0, 0)) hc87 0 rfl trivial ?_
    refine R_reti hc87 rfl rfl ?_
    first
      | (exfalso; omega; done)
      | exact ⟨(-7), (u A 87 (wr (A 87) 7 ((rd (A 87) 7) + 1))), F, REL_ref hR0 (by decide) (by decide), rfl, rfl, rfl, ⟨(by repeat (first | exact PST_0 | refine PST_A rfl ?_ | refine PST_F rfl ?_)), fun q1 => by first | rfl | (exfalso; omega)⟩⟩

set_option maxHeartbeats 4000000 in
theorem op_look {c : Int} {A : Nat → List Int} {F : Nat → Int} (hR : REL c A F) (hc : c < 1000000) (p q : Int) (i_p : inI p) (i_q : inI q) : R 64 (0, L0 64 [vR 1, vI p, vI q], [], LAY (shA A) (shF F), 0, 0) (fun r G => ∃ (x : Int) (A' : Nat → List Int) (F' : Nat → Int), REL (c + 1) A' F' ∧ r = some (vI x) ∧ G = LAY (shA A') (shF F') ∧ A' 0 = A 0 ∧ PST A F A' F' ∧ (q = 1 → -100 ≤ x ∧ x ≤ 700)) := by
  have hR0 := hR
  obtain ⟨hL, hPE, hTH, hTP, hDE, hLE, hNO, hAC, hRO, hRE⟩ := hR
  have j_p := i_p
  unfold inI at j_p
  have j_q := i_q
  unfold inI at j_q
  have h87 : (A 87).length = 9 := hL 87 (by decide)
  have h3 : (A 3).length = 30 := hL 3 (by decide)
  have h4 : (A 4).length = 30 := hL 4 (by decide)
  have h5 : (A 5).length = 30 := hL 5 (by decide)
  have h6 : (A 6).length = 30 := hL 6 (by decide)
  have h8 : (A 8).length = 30 := hL 8 (by decide)
  have h9 : (A 9).length = 30 := hL 9 (by decide)
  have r2 := REFU_at hRE (k := 2) (by decide) (by decide) hc
  have r3 := REFU_at hRE (k := 3) (by decide) (by decide) hc
  have r4 := REFU_at hRE (k := 4) (by decide) (by decide) hc
  have r5 := REFU_at hRE (k := 5) (by decide) (by decide) hc
  have r6 := REFU_at hRE (k := 6) (by decide) (by decide) hc
  have r7 := REFU_at hRE (k := 7) (by decide) (by decide) hc
  have r8 := REFU_at hRE (k := 8) (by decide) (by decide) hc
  obtain ⟨t1, t2, t3, t4, t5, t6⟩ := hTH
  obtain ⟨p1, p2, p3, p4, p5, p6⟩ := hPE
  have q3 := p3 p
  have q4 := p4 p
  refine R_s (P := True) (f' := (5, [some (vR 1), some (vI p), some (vI q)], [vI p, vR 2], LAY (shA A) (shF F), 0, 0)) hc64 3 rfl trivial ?_
  refine R_cv hc64 rfl rfl ?_ (fun r G h => h)
  refine R_s (P := True) (f' := (1, [some (vR 2), some (vI p)], [vI p], LAY (shA A) (shF F), 0, 0)) hc5 1 rfl trivial ?_
  refine R_if (t := 16) hc5 rfl rfl (fun (c1 : p < 0) => ?_) (fun (c1 : ¬ (p < 0)) => ?_)
  · refine R_s (P := True) (f' := (17, [some (vR 2), some (vI p)], [vI 0], LAY (shA A) (shF F), 0, 0)) hc5 1 rfl trivial ?_
    refine R_retz hc5 rfl rfl (Or.inl rfl) ?_
    refine R_s (f' := (8, [some (vR 1), some (vI p), some (vI q)], [vI 0], LAY (shA A) (shF F), 0, 0)) hc64 0 rfl trivial ?_
    refine R_if (t := 18) hc64 rfl rfl (fun (z : ¬ 0 = 0) => absurd z (by decide)) (fun (_ : ¬ (¬ 0 = 0)) => ?_)
    refine R_s (P := True) (f' := (14, [some (vR 1), some (vI p), some (vI q)], [vI (-3), vR 1], LAY (shA A) (shF F), 0, 0)) hc64 2 rfl trivial ?_
    refine R_cv hc64 rfl rfl ?_ (fun r G h => h)
    refine R_s (P := True) (f' := (3, [some (vR 1), some (vI (-3))], [vI (-2), vI (-3)], LAY (shA A) (shF F), 0, 0)) hc93 2 rfl trivial ?_
    refine R_ic (t := 23) hc93 rfl rfl (fun (z : (-2) < (-3)) => absurd z (by decide)) (fun (_ : ¬ ((-2) < (-3))) => ?_)
    refine R_s (P := True) (f' := (9, [some (vR 1), some (vI (-3))], [vI (-8), vI (-3)], LAY (shA A) (shF F), 0, 0)) hc93 2 rfl trivial ?_
    refine R_ic (t := 23) hc93 rfl rfl (fun (z : (-3) < (-8)) => absurd z (by decide)) (fun (_ : ¬ ((-3) < (-8))) => ?_)
    refine R_s (P := inI 3 ∧ (0 ≤ 3 ∧ 3 < ((A 87).length : Int)) ∧ inI ((rd (A 87) 3) + 1) ∧ (0 ≤ 3 ∧ 3 < ((A 87).length : Int)) ∧ True) (f' := (24, [some (vR 1), some (vI (-3))], [vI (-3)], LAY (u (shA A) 87 (wr (A 87) 3 ((rd (A 87) 3) + 1))) (shF F), 0, 0)) hc93 10 rfl ⟨⟨by omega, by omega⟩, ⟨by omega, by omega⟩, ⟨by omega, by omega⟩, ⟨by omega, by omega⟩, trivial⟩ ?_
    refine R_reti hc93 rfl rfl ?_
    refine R_s (f' := (17, [some (vR 1), some (vI p), some (vI q)], [vI (-3)], LAY (u (shA A) 87 (wr (A 87) 3 ((rd (A 87) 3) + 1))) (shF F), 0, 0)) hc64 0 rfl trivial ?_
    refine R_reti hc64 rfl rfl ?_
    first
      | (exfalso; omega; done)
      | exact ⟨(-3), (u A 87 (wr (A 87) 3 ((rd (A 87) 3) + 1))), F, REL_ref hR0 (by decide) (by decide), rfl, rfl, rfl, ⟨(by repeat (first | exact PST_0 | refine PST_A rfl ?_ | refine PST_F rfl ?_)), fun q1 => by first | omega | (exfalso; omega)⟩⟩
  · refine R_s (P := True) (f' := (9, [some (vR 2), some (vI p)], [vI (F 3), vI p], LAY (shA A) (shF F), 0, 0)) hc5 3 rfl trivial ?_
    refine R_ic (t := 16) hc5 rfl rfl (fun (c2 : F 3 ≤ p) => ?_) (fun (c2 : ¬ (F 3 ≤ p)) => ?_)
    · refine R_s (P := True) (f' := (17, [some (vR 2), some (vI p)], [vI 0], LAY (shA A) (shF F), 0, 0)) hc5 1 rfl trivial ?_
      refine R_retz hc5 rfl rfl (Or.inl rfl) ?_
      refine R_s (f' := (8, [some (vR 1), some (vI p), some (vI q)], [vI 0], LAY (shA A) (shF F), 0, 0)) hc64 0 rfl trivial ?_
      refine R_if (t := 18) hc64 rfl rfl (fun (z : ¬ 0 = 0) => absurd z (by decide)) (fun (_ : ¬ (¬ 0 = 0)) => ?_)
      refine R_s (P := True) (f' := (14, [some (vR 1), some (vI p), some (vI q)], [vI (-3), vR 1], LAY (shA A) (shF F), 0, 0)) hc64 2 rfl trivial ?_
      refine R_cv hc64 rfl rfl ?_ (fun r G h => h)
      refine R_s (P := True) (f' := (3, [some (vR 1), some (vI (-3))], [vI (-2), vI (-3)], LAY (shA A) (shF F), 0, 0)) hc93 2 rfl trivial ?_
      refine R_ic (t := 23) hc93 rfl rfl (fun (z : (-2) < (-3)) => absurd z (by decide)) (fun (_ : ¬ ((-2) < (-3))) => ?_)
      refine R_s (P := True) (f' := (9, [some (vR 1), some (vI (-3))], [vI (-8), vI (-3)], LAY (shA A) (shF F), 0, 0)) hc93 2 rfl trivial ?_
      refine R_ic (t := 23) hc93 rfl rfl (fun (z : (-3) < (-8)) => absurd z (by decide)) (fun (_ : ¬ ((-3) < (-8))) => ?_)
      refine R_s (P := inI 3 ∧ (0 ≤ 3 ∧ 3 < ((A 87).length : Int)) ∧ inI ((rd (A 87) 3) + 1) ∧ (0 ≤ 3 ∧ 3 < ((A 87).length : Int)) ∧ True) (f' := (24, [some (vR 1), some (vI (-3))], [vI (-3)], LAY (u (shA A) 87 (wr (A 87) 3 ((rd (A 87) 3) + 1))) (shF F), 0, 0)) hc93 10 rfl ⟨⟨by omega, by omega⟩, ⟨by omega, by omega⟩, ⟨by omega, by omega⟩, ⟨by omega, by omega⟩, trivial⟩ ?_
      refine R_reti hc93 rfl rfl ?_
      refine R_s (f' := (17, [some (vR 1), some (vI p), some (vI q)], [vI (-3)], LAY (u (shA A) 87 (wr (A 87) 3 ((rd (A 87) 3) + 1))) (shF F), 0, 0)) hc64 0 rfl trivial ?_
      refine R_reti hc64 rfl rfl ?_
      first
        | (exfalso; omega; done)
        | exact ⟨(-3), (u A 87 (wr (A 87) 3 ((rd (A 87) 3) + 1))), F, REL_ref hR0 (by decide) (by decide), rfl, rfl, rfl, ⟨(by repeat (first | exact PST_0 | refine PST_A rfl ?_ | refine PST_F rfl ?_)), fun q1 => by first | omega | (exfalso; omega)⟩⟩
    · refine R_s (P := True) (f' := (17, [some (vR 2), some (vI p)], [vI 1], LAY (shA A) (shF F), 0, 0)) hc5 2 rfl trivial ?_
      refine R_retz hc5 rfl rfl (Or.inr rfl) ?_
      refine R_s (f' := (8, [some (vR 1), some (vI p), some (vI q)], [vI 1], LAY (shA A) (shF F), 0, 0)) hc64 0 rfl trivial ?_
      refine R_if (t := 18) hc64 rfl rfl (fun (_ : ¬ 1 = 0) => ?_) (fun (z : ¬ (¬ 1 = 0)) => absurd (by decide) z)
      refine R_s (P := True) (f' := (27, [some (vR 1), some (vI p), some (vI q)], [vI (-1), vI (F 2), vR 2], LAY (shA A) (shF F), 0, 0)) hc64 5 rfl trivial ?_
      refine R_cv hc64 rfl rfl (l_wakeT (A := shA A) (F := shF F) (n := (F 3).toNat) (al := N_al A F) (LENS_sh hL) (R_n hR0) (R_n30 hR0) (R_TR (A := A) hR0) (R_U (A := A) hR0) (R_T (A := A) hR0) (fun p _ => rfl)) (fun r G9 hp9 => ?_)
      obtain ⟨rfl, l8, l9, l10, rfl, k8, k9, k10, hw⟩ := hp9
      have y8 : rd l8 p = N_al A F p.toNat ∧ rd l9 p = CN (A 3) (F 3).toNat (N_al A F) p.toNat := by
        have z := hw p.toNat (by omega)
        rw [show ((p.toNat : Nat) : Int) = p by omega] at z
        exact ⟨z.1, z.2.1⟩
      have y01 := N_al_01 (A := A) hR0 p.toNat (by omega)
      refine R_s (f' := (30, [some (vR 1), some (vI p), some (vI q)], [], LAY (u (u (u (shA A) 8 l8) 9 l9) 10 l10) (shF F), 0, 0)) hc64 0 rfl trivial ?_
      refine R_s (P := True) (f' := (31, [some (vR 1), some (vI p), some (vI q)], [vI q], LAY (u (u (u (shA A) 8 l8) 9 l9) 10 l10) (shF F), 0, 0)) hc64 1 rfl trivial ?_
      refine R_sw (t := 147) hc64 rfl (by decide) (fun isw o hio (c4 : q = 0 + isw) => ?_) rfl (fun (c4 : q < 0 ∨ 6 < q) => ?_)
      · match isw, hio, c4 with
        | 0, hio, c4 =>
          cases hio
          refine R_s (f' := (72, [some (vR 1), some (vI p), some (vI q)], [], LAY (u (u (u (shA A) 8 l8) 9 l9) 10 l10) (shF F), 0, 0)) hc64 0 rfl trivial ?_
          refine R_s (P := (0 ≤ p ∧ p < ((A 3).length : Int)) ∧ True) (f' := (81, [some (vR 1), some (vI p), some (vI q)], [vI (rd (A 3) p)], LAY (u (u (u (shA A) 8 l8) 9 l9) 10 l10) (shF F), 0, 0)) hc64 5 rfl ⟨⟨by omega, by omega⟩, trivial⟩ ?_
          refine R_reti hc64 rfl rfl ?_
          first
            | (exfalso; omega; done)
            | exact ⟨rd (A 3) p, (u (u (u A 8 l8) 9 l9) 10 l10), F, ⟨(LENS_u (LENS_u (LENS_u hL (by show (l8).length = (A 8).length; rw [k8, hL 8 (by decide)]; rfl)) (by show (l9).length = (A 9).length; rw [k9, hL 9 (by decide)]; rfl)) (by show (l10).length = (A 10).length; rw [k10, hL 10 (by decide)]; rfl)), hR0.2.1, hR0.2.2.1, hR0.2.2.2.1, hR0.2.2.2.2.1, hR0.2.2.2.2.2.1, hR0.2.2.2.2.2.2.1, hR0.2.2.2.2.2.2.2.1, hR0.2.2.2.2.2.2.2.2.1, (REFU_c hR0.2.2.2.2.2.2.2.2.2)⟩, rfl, rfl, rfl, ⟨(by repeat (first | exact PST_0 | refine PST_A rfl ?_ | refine PST_F rfl ?_)), fun q1 => by first | omega | (exfalso; omega)⟩⟩
        | 1, hio, c4 =>
          cases hio
          refine R_s (f' := (82, [some (vR 1), some (vI p), some (vI q)], [], LAY (u (u (u (shA A) 8 l8) 9 l9) 10 l10) (shF F), 0, 0)) hc64 0 rfl trivial ?_
          refine R_s (P := (0 ≤ p ∧ p < ((A 4).length : Int)) ∧ True) (f' := (91, [some (vR 1), some (vI p), some (vI q)], [vI (rd (A 4) p)], LAY (u (u (u (shA A) 8 l8) 9 l9) 10 l10) (shF F), 0, 0)) hc64 5 rfl ⟨⟨by omega, by omega⟩, trivial⟩ ?_
          refine R_reti hc64 rfl rfl ?_
          first
            | (exfalso; omega; done)
            | exact ⟨rd (A 4) p, (u (u (u A 8 l8) 9 l9) 10 l10), F, ⟨(LENS_u (LENS_u (LENS_u hL (by show (l8).length = (A 8).length; rw [k8, hL 8 (by decide)]; rfl)) (by show (l9).length = (A 9).length; rw [k9, hL 9 (by decide)]; rfl)) (by show (l10).length = (A 10).length; rw [k10, hL 10 (by decide)]; rfl)), hR0.2.1, hR0.2.2.1, hR0.2.2.2.1, hR0.2.2.2.2.1, hR0.2.2.2.2.2.1, hR0.2.2.2.2.2.2.1, hR0.2.2.2.2.2.2.2.1, hR0.2.2.2.2.2.2.2.2.1, (REFU_c hR0.2.2.2.2.2.2.2.2.2)⟩, rfl, rfl, rfl, ⟨(by repeat (first | exact PST_0 | refine PST_A rfl ?_ | refine PST_F rfl ?_)), fun q1 => by first | omega | (exfalso; omega)⟩⟩
        | 2, hio, c4 =>
          cases hio
          refine R_s (f' := (92, [some (vR 1), some (vI p), some (vI q)], [], LAY (u (u (u (shA A) 8 l8) 9 l9) 10 l10) (shF F), 0, 0)) hc64 0 rfl trivial ?_
          refine R_s (P := (0 ≤ p ∧ p < ((A 5).length : Int)) ∧ True) (f' := (101, [some (vR 1), some (vI p), some (vI q)], [vI (rd (A 5) p)], LAY (u (u (u (shA A) 8 l8) 9 l9) 10 l10) (shF F), 0, 0)) hc64 5 rfl ⟨⟨by omega, by omega⟩, trivial⟩ ?_
          refine R_reti hc64 rfl rfl ?_
          first
            | (exfalso; omega; done)
            | exact ⟨rd (A 5) p, (u (u (u A 8 l8) 9 l9) 10 l10), F, ⟨(LENS_u (LENS_u (LENS_u hL (by show (l8).length = (A 8).length; rw [k8, hL 8 (by decide)]; rfl)) (by show (l9).length = (A 9).length; rw [k9, hL 9 (by decide)]; rfl)) (by show (l10).length = (A 10).length; rw [k10, hL 10 (by decide)]; rfl)), hR0.2.1, hR0.2.2.1, hR0.2.2.2.1, hR0.2.2.2.2.1, hR0.2.2.2.2.2.1, hR0.2.2.2.2.2.2.1, hR0.2.2.2.2.2.2.2.1, hR0.2.2.2.2.2.2.2.2.1, (REFU_c hR0.2.2.2.2.2.2.2.2.2)⟩, rfl, rfl, rfl, ⟨(by repeat (first | exact PST_0 | refine PST_A rfl ?_ | refine PST_F rfl ?_)), fun q1 => by first | omega | (exfalso; omega)⟩⟩
        | 3, hio, c4 =>
          cases hio
          refine R_s (f' := (102, [some (vR 1), some (vI p), some (vI q)], [], LAY (u (u (u (shA A) 8 l8) 9 l9) 10 l10) (shF F), 0, 0)) hc64 0 rfl trivial ?_
          refine R_s (P := (0 ≤ p ∧ p < ((A 6).length : Int)) ∧ True) (f' := (111, [some (vR 1), some (vI p), some (vI q)], [vI (rd (A 6) p)], LAY (u (u (u (shA A) 8 l8) 9 l9) 10 l10) (shF F), 0, 0)) hc64 5 rfl ⟨⟨by omega, by omega⟩, trivial⟩ ?_
          refine R_cs hc64 rfl rfl ?_ (fun r G h => h)
          refine R_s (P := True) (f' := (1, [some (vI (rd (A 6) p))], [vI (rd (A 6) p)], LAY (u (u (u (shA A) 8 l8) 9 l9) 10 l10) (shF F), 0, 0)) hc95 1 rfl trivial ?_
          refine R_if (t := 8) hc95 rfl rfl (fun (c5 : rd (A 6) p = 0) => ?_) (fun (c5 : ¬ (rd (A 6) p = 0)) => ?_)
          · refine R_s (P := True) (f' := (9, [some (vI (rd (A 6) p))], [vI 0], LAY (u (u (u (shA A) 8 l8) 9 l9) 10 l10) (shF F), 0, 0)) hc95 1 rfl trivial ?_
            refine R_reti hc95 rfl rfl ?_
            refine R_s (f' := (114, [some (vR 1), some (vI p), some (vI q)], [vI 0], LAY (u (u (u (shA A) 8 l8) 9 l9) 10 l10) (shF F), 0, 0)) hc64 0 rfl trivial ?_
            refine R_reti hc64 rfl rfl ?_
            first
              | (exfalso; omega; done)
              | exact ⟨0, (u (u (u A 8 l8) 9 l9) 10 l10), F, ⟨(LENS_u (LENS_u (LENS_u hL (by show (l8).length = (A 8).length; rw [k8, hL 8 (by decide)]; rfl)) (by show (l9).length = (A 9).length; rw [k9, hL 9 (by decide)]; rfl)) (by show (l10).length = (A 10).length; rw [k10, hL 10 (by decide)]; rfl)), hR0.2.1, hR0.2.2.1, hR0.2.2.2.1, hR0.2.2.2.2.1, hR0.2.2.2.2.2.1, hR0.2.2.2.2.2.2.1, hR0.2.2.2.2.2.2.2.1, hR0.2.2.2.2.2.2.2.2.1, (REFU_c hR0.2.2.2.2.2.2.2.2.2)⟩, rfl, rfl, rfl, ⟨(by repeat (first | exact PST_0 | refine PST_A rfl ?_ | refine PST_F rfl ?_)), fun q1 => by first | omega | (exfalso; omega)⟩⟩
          · refine R_s (P := True) (f' := (9, [some (vI (rd (A 6) p))], [vI 1], LAY (u (u (u (shA A) 8 l8) 9 l9) 10 l10) (shF F), 0, 0)) hc95 2 rfl trivial ?_
            refine R_reti hc95 rfl rfl ?_
            refine R_s (f' := (114, [some (vR 1), some (vI p), some (vI q)], [vI 1], LAY (u (u (u (shA A) 8 l8) 9 l9) 10 l10) (shF F), 0, 0)) hc64 0 rfl trivial ?_
            refine R_reti hc64 rfl rfl ?_
            first
              | (exfalso; omega; done)
              | exact ⟨1, (u (u (u A 8 l8) 9 l9) 10 l10), F, ⟨(LENS_u (LENS_u (LENS_u hL (by show (l8).length = (A 8).length; rw [k8, hL 8 (by decide)]; rfl)) (by show (l9).length = (A 9).length; rw [k9, hL 9 (by decide)]; rfl)) (by show (l10).length = (A 10).length; rw [k10, hL 10 (by decide)]; rfl)), hR0.2.1, hR0.2.2.1, hR0.2.2.2.1, hR0.2.2.2.2.1, hR0.2.2.2.2.2.1, hR0.2.2.2.2.2.2.1, hR0.2.2.2.2.2.2.2.1, hR0.2.2.2.2.2.2.2.2.1, (REFU_c hR0.2.2.2.2.2.2.2.2.2)⟩, rfl, rfl, rfl, ⟨(by repeat (first | exact PST_0 | refine PST_A rfl ?_ | refine PST_F rfl ?_)), fun q1 => by first | omega | (exfalso; omega)⟩⟩
        | 4, hio, c4 =>
          cases hio
          refine R_s (f' := (115, [some (vR 1), some (vI p), some (vI q)], [], LAY (u (u (u (shA A) 8 l8) 9 l9) 10 l10) (shF F), 0, 0)) hc64 0 rfl trivial ?_
          refine R_s (P := (0 ≤ p ∧ p < ((l8).length : Int)) ∧ True) (f' := (124, [some (vR 1), some (vI p), some (vI q)], [vI (rd l8 p)], LAY (u (u (u (shA A) 8 l8) 9 l9) 10 l10) (shF F), 0, 0)) hc64 5 rfl ⟨⟨by omega, by omega⟩, trivial⟩ ?_
          refine R_cs hc64 rfl rfl ?_ (fun r G h => h)
          refine R_s (P := True) (f' := (1, [some (vI (rd l8 p))], [vI (rd l8 p)], LAY (u (u (u (shA A) 8 l8) 9 l9) 10 l10) (shF F), 0, 0)) hc95 1 rfl trivial ?_
          refine R_if (t := 8) hc95 rfl rfl (fun (c6 : rd l8 p = 0) => ?_) (fun (c6 : ¬ (rd l8 p = 0)) => ?_)
          · refine R_s (P := True) (f' := (9, [some (vI (rd l8 p))], [vI 0], LAY (u (u (u (shA A) 8 l8) 9 l9) 10 l10) (shF F), 0, 0)) hc95 1 rfl trivial ?_
            refine R_reti hc95 rfl rfl ?_
            refine R_s (f' := (127, [some (vR 1), some (vI p), some (vI q)], [vI 0], LAY (u (u (u (shA A) 8 l8) 9 l9) 10 l10) (shF F), 0, 0)) hc64 0 rfl trivial ?_
            refine R_reti hc64 rfl rfl ?_
            first
              | (exfalso; omega; done)
              | exact ⟨0, (u (u (u A 8 l8) 9 l9) 10 l10), F, ⟨(LENS_u (LENS_u (LENS_u hL (by show (l8).length = (A 8).length; rw [k8, hL 8 (by decide)]; rfl)) (by show (l9).length = (A 9).length; rw [k9, hL 9 (by decide)]; rfl)) (by show (l10).length = (A 10).length; rw [k10, hL 10 (by decide)]; rfl)), hR0.2.1, hR0.2.2.1, hR0.2.2.2.1, hR0.2.2.2.2.1, hR0.2.2.2.2.2.1, hR0.2.2.2.2.2.2.1, hR0.2.2.2.2.2.2.2.1, hR0.2.2.2.2.2.2.2.2.1, (REFU_c hR0.2.2.2.2.2.2.2.2.2)⟩, rfl, rfl, rfl, ⟨(by repeat (first | exact PST_0 | refine PST_A rfl ?_ | refine PST_F rfl ?_)), fun q1 => by first | omega | (exfalso; omega)⟩⟩
          · refine R_s (P := True) (f' := (9, [some (vI (rd l8 p))], [vI 1], LAY (u (u (u (shA A) 8 l8) 9 l9) 10 l10) (shF F), 0, 0)) hc95 2 rfl trivial ?_
            refine R_reti hc95 rfl rfl ?_
            refine R_s (f' := (127, [some (vR 1), some (vI p), some (vI q)], [vI 1], LAY (u (u (u (shA A) 8 l8) 9 l9) 10 l10) (shF F), 0, 0)) hc64 0 rfl trivial ?_
            refine R_reti hc64 rfl rfl ?_
            first
              | (exfalso; omega; done)
              | exact ⟨1, (u (u (u A 8 l8) 9 l9) 10 l10), F, ⟨(LENS_u (LENS_u (LENS_u hL (by show (l8).length = (A 8).length; rw [k8, hL 8 (by decide)]; rfl)) (by show (l9).length = (A 9).length; rw [k9, hL 9 (by decide)]; rfl)) (by show (l10).length = (A 10).length; rw [k10, hL 10 (by decide)]; rfl)), hR0.2.1, hR0.2.2.1, hR0.2.2.2.1, hR0.2.2.2.2.1, hR0.2.2.2.2.2.1, hR0.2.2.2.2.2.2.1, hR0.2.2.2.2.2.2.2.1, hR0.2.2.2.2.2.2.2.2.1, (REFU_c hR0.2.2.2.2.2.2.2.2.2)⟩, rfl, rfl, rfl, ⟨(by repeat (first | exact PST_0 | refine PST_A rfl ?_ | refine PST_F rfl ?_)), fun q1 => by first | omega | (exfalso; omega)⟩⟩
        | 5, hio, c4 =>
          cases hio
          refine R_s (f' := (128, [some (vR 1), some (vI p), some (vI q)], [], LAY (u (u (u (shA A) 8 l8) 9 l9) 10 l10) (shF F), 0, 0)) hc64 0 rfl trivial ?_
          refine R_s (P := True) (f' := (133, [some (vR 1), some (vI p), some (vI q)], [vI p, vR 2], LAY (u (u (u (shA A) 8 l8) 9 l9) 10 l10) (shF F), 0, 0)) hc64 3 rfl trivial ?_
          refine R_cv hc64 rfl rfl (l_children (A := (u (u (u (shA A) 8 l8) 9 l9) 10 l10)) (F := (shF F)) (n := (F 3).toNat) (LENS_u (LENS_u (LENS_u (LENS_sh hL) (by show (l8).length = (A 8).length; rw [k8, hL 8 (by decide)]; rfl)) (by show (l9).length = (A 9).length; rw [k9, hL 9 (by decide)]; rfl)) (by show (l10).length = (A 10).length; rw [k10, hL 10 (by decide)]; rfl)) (R_n hR0) (R_n30 hR0) (R_TR (A := A) hR0) (q := p) (qn := p.toNat) (by omega) (by omega)) (fun r G9 hp9 => ?_)
          obtain ⟨rfl, rfl⟩ := hp9
          refine R_s (f' := (136, [some (vR 1), some (vI p), some (vI q)], [vI (sm (fun c => if rd (A 3) c = p then 1 else 0) (F 3).toNat)], LAY (u (u (u (shA A) 8 l8) 9 l9) 10 l10) (shF F), 0, 0)) hc64 0 rfl trivial ?_
          refine R_reti hc64 rfl rfl ?_
          first
            | (exfalso; omega; done)
            | exact ⟨sm (fun c => if rd (A 3) c = p then 1 else 0) (F 3).toNat, (u (u (u A 8 l8) 9 l9) 10 l10), F, ⟨(LENS_u (LENS_u (LENS_u hL (by show (l8).length = (A 8).length; rw [k8, hL 8 (by decide)]; rfl)) (by show (l9).length = (A 9).length; rw [k9, hL 9 (by decide)]; rfl)) (by show (l10).length = (A 10).length; rw [k10, hL 10 (by decide)]; rfl)), hR0.2.1, hR0.2.2.1, hR0.2.2.2.1, hR0.2.2.2.2.1, hR0.2.2.2.2.2.1, hR0.2.2.2.2.2.2.1, hR0.2.2.2.2.2.2.2.1, hR0.2.2.2.2.2.2.2.2.1, (REFU_c hR0.2.2.2.2.2.2.2.2.2)⟩, rfl, rfl, rfl, ⟨(by repeat (first | exact PST_0 | refine PST_A rfl ?_ | refine PST_F rfl ?_)), fun q1 => by first | omega | (exfalso; omega)⟩⟩
        | 6, hio, c4 =>
          cases hio
          refine R_s (f' := (137, [some (vR 1), some (vI p), some (vI q)], [], LAY (u (u (u (shA A) 8 l8) 9 l9) 10 l10) (shF F), 0, 0)) hc64 0 rfl trivial ?_
          refine R_s (P := (0 ≤ p ∧ p < ((l9).length : Int)) ∧ True) (f' := (146, [some (vR 1), some (vI p), some (vI q)], [vI (rd l9 p)], LAY (u (u (u (shA A) 8 l8) 9 l9) 10 l10) (shF F), 0, 0)) hc64 5 rfl ⟨⟨by omega, by omega⟩, trivial⟩ ?_
          refine R_reti hc64 rfl rfl ?_
          first
            | (exfalso; omega; done)
            | exact ⟨rd l9 p, (u (u (u A 8 l8) 9 l9) 10 l10), F, ⟨(LENS_u (LENS_u (LENS_u hL (by show (l8).length = (A 8).length; rw [k8, hL 8 (by decide)]; rfl)) (by show (l9).length = (A 9).length; rw [k9, hL 9 (by decide)]; rfl)) (by show (l10).length = (A 10).length; rw [k10, hL 10 (by decide)]; rfl)), hR0.2.1, hR0.2.2.1, hR0.2.2.2.1, hR0.2.2.2.2.1, hR0.2.2.2.2.2.1, hR0.2.2.2.2.2.2.1, hR0.2.2.2.2.2.2.2.1, hR0.2.2.2.2.2.2.2.2.1, (REFU_c hR0.2.2.2.2.2.2.2.2.2)⟩, rfl, rfl, rfl, ⟨(by repeat (first | exact PST_0 | refine PST_A rfl ?_ | refine PST_F rfl ?_)), fun q1 => by first | omega | (exfalso; omega)⟩⟩
        | isw + 7, hio, c4 => exact absurd hio (by simp)
      · refine R_s (P := True) (f' := (150, [some (vR 1), some (vI p), some (vI q)], [vI (-7), vR 1], LAY (u (u (u (shA A) 8 l8) 9 l9) 10 l10) (shF F), 0, 0)) hc64 2 rfl trivial ?_
        refine R_cv hc64 rfl rfl ?_ (fun r G h => h)
        refine R_s (P := True) (f' := (3, [some (vR 1), some (vI (-7))], [vI (-2), vI (-7)], LAY (u (u (u (shA A) 8 l8) 9 l9) 10 l10) (shF F), 0, 0)) hc93 2 rfl trivial ?_
        refine R_ic (t := 23) hc93 rfl rfl (fun (z : (-2) < (-7)) => absurd z (by decide)) (fun (_ : ¬ ((-2) < (-7))) => ?_)
        refine R_s (P := True) (f' := (9, [some (vR 1), some (vI (-7))], [vI (-8), vI (-7)], LAY (u (u (u (shA A) 8 l8) 9 l9) 10 l10) (shF F), 0, 0)) hc93 2 rfl trivial ?_
        refine R_ic (t := 23) hc93 rfl rfl (fun (z : (-7) < (-8)) => absurd z (by decide)) (fun (_ : ¬ ((-7) < (-8))) => ?_)
        refine R_s (P := inI 7 ∧ (0 ≤ 7 ∧ 7 < ((A 87).length : Int)) ∧ inI ((rd (A 87) 7) + 1) ∧ (0 ≤ 7 ∧ 7 < ((A 87).length : Int)) ∧ True) (f' := (24, [some (vR 1), some (vI (-7))], [vI (-7)], LAY (u (u (u (u (shA A) 8 l8) 9 l9) 10 l10) 87 (wr (A 87) 7 ((rd (A 87) 7) + 1))) (shF F), 0, 0)) hc93 10 rfl ⟨⟨by omega, by omega⟩, ⟨by omega, by omega⟩, ⟨by omega, by omega⟩, ⟨by omega, by omega⟩, trivial⟩ ?_
        refine R_reti hc93 rfl rfl ?_
        refine R_s (f' := (153, [some (vR 1), some (vI p), some (vI q)], [vI (-7)], LAY (u (u (u (u (shA A) 8 l8) 9 l9) 10 l10) 87 (wr (A 87) 7 ((rd (A 87) 7) + 1))) (shF F), 0, 0)) hc64 0 rfl trivial ?_
        refine R_reti hc64 rfl rfl ?_
        first
          | (exfalso; omega; done)
          | exact ⟨(-7), (u (u (u (u A 8 l8) 9 l9) 10 l10) 87 (wr (A 87) 7 ((rd (A 87) 7) + 1))), F, ⟨(LENS_u (LENS_u (LENS_u (LENS_u hL (by show (l8).length = (A 8).length; rw [k8, hL 8 (by decide)]; rfl)) (by show (l9).length = (A 9).length; rw [k9, hL 9 (by decide)]; rfl)) (by show (l10).length = (A 10).length; rw [k10, hL 10 (by decide)]; rfl)) (wr_len _ _ _)), hR0.2.1, hR0.2.2.1, hR0.2.2.2.1, hR0.2.2.2.2.1, hR0.2.2.2.2.2.1, hR0.2.2.2.2.2.2.1, hR0.2.2.2.2.2.2.2.1, hR0.2.2.2.2.2.2.2.2.1, (REFU_up hR0.2.2.2.2.2.2.2.2.2 (hL 87 (by decide)) (by decide) (by decide))⟩, rfl, rfl, rfl, ⟨(by repeat (first | exact PST_0 | refine PST_A rfl ?_ | refine PST_F rfl ?_)), fun q1 => by first | omega | (exfalso; omega)⟩⟩

