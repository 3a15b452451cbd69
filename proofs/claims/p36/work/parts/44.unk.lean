theorem PERS_unk {n : Int} {P B D U T mT D' T' : List Int} (h : PERS n P B D U T mT) (lD : D.length = 30) (lU : U.length = 30) (lT : T.length = 30) (lM : mT.length = 30) {p v : Int} (hp : 0 ≤ p ∧ p < n) (hv : v = 0 ∨ v = 1) (hD : D' = D ∨ D' = wr D p (-1)) (hT : T' = T ∨ T' = wr T p 0) (hvT : v = 1 → T' = wr T p 0) (hc : cb (wr U p v) n.toNat ≤ 5) : PERS n P B D' (wr U p v) T' (wr mT p 0) := by
  obtain ⟨p1, p2, p3, p4, p5, p6⟩ := h
  refine ⟨p1, p2, fun i hi hi2 => ?_, fun i hi hi2 => ?_, fun i hi hi2 => ?_, hc⟩
  · have z := p3 i hi hi2
    have e : rd D' i = rd D i ∨ rd D' i = -1 := by
      rcases hD with e | e
      · rw [e]
        exact .inl rfl
      · rw [e, rd_wr hp.1 (by omega) hi]
        split
        · exact .inr rfl
        · exact .inl rfl
    omega
  · have z := p4 i hi hi2
    have e : rd T' i = rd T i ∨ (i = p ∧ rd T' i = 0) := by
      rcases hT with e | e
      · rw [e]
        exact .inl rfl
      · rw [e, rd_wr hp.1 (by omega) hi]
        split
        · rename_i q
          exact .inr ⟨q, rfl⟩
        · exact .inl rfl
    have e2 : v = 1 → i = p → rd T' i = 0 := fun q1 q2 => by rw [hvT q1, rd_wr hp.1 (by omega) hi, if_pos q2]
    rw [rd_wr hp.1 (by omega) hi, rd_wr hp.1 (by omega) hi]
    by_cases q : i = p
    · rw [if_pos q, if_pos q]
      exact ⟨hv, by omega, .inl rfl, fun q2 => (e2 q2 q).symm⟩
    · rw [if_neg q, if_neg q]
      exact ⟨z.1, by omega, z.2.2.1, fun q2 => by have := z.2.2.2 q2; omega⟩
  · rw [rd_wr hp.1 (by omega) (by omega), if_neg (by omega)]
    exact p5 i hi hi2
theorem op_unknown {c : Int} {A : Nat → List Int} {F : Nat → Int} (hR : REL c A F) (hc : c < 1000000) (p q : Int) (i_p : inI p) (i_q : inI q) : R 62 (0, L0 62 [vR 1, vI p, vI q], [], LAY (shA A) (shF F), 0, 0) (fun r G => ∃ (x : Int) (A' : Nat → List Int) (F' : Nat → Int), REL (c + 1) A' F' ∧ r = some (vI x) ∧ G = LAY (shA A') (shF F') ∧ A' 0 = A 0 ∧ KP A F A' F') := by
  have hR0 := hR
  obtain ⟨hL, hPE, hTH, hTP, hDE, hLE, hNO, hAC, hRO, hRE⟩ := hR
  have j_p := i_p
  unfold inI at j_p
  have j_q := i_q
  unfold inI at j_q
  have h87 : (A 87).length = 9 := hL 87 (by decide)
  have h5 : (A 5).length = 30 := hL 5 (by decide)
  have h6 : (A 6).length = 30 := hL 6 (by decide)
  have h7 : (A 7).length = 30 := hL 7 (by decide)
  have h94 : (A 94).length = 30 := hL 94 (by decide)
  have r2 := REFU_at hRE (k := 2) (by decide) (by decide) hc
  have r3 := REFU_at hRE (k := 3) (by decide) (by decide) hc
  have r4 := REFU_at hRE (k := 4) (by decide) (by decide) hc
  have r5 := REFU_at hRE (k := 5) (by decide) (by decide) hc
  have r6 := REFU_at hRE (k := 6) (by decide) (by decide) hc
  have r7 := REFU_at hRE (k := 7) (by decide) (by decide) hc
  have r8 := REFU_at hRE (k := 8) (by decide) (by decide) hc
  obtain ⟨t1, t2, t3, t4, t5, t6⟩ := hTH
  obtain ⟨p1, p2, p3, p4, p5, p6⟩ := hPE
  have q3 := p3 p
  have q4 := p4 p
  obtain ⟨un, hun⟩ : ∃ x, x = sm (fun i : Nat => if rd (A 6) i = 0 then 0 else 1) (F 3).toNat := ⟨_, rfl⟩
  have hun2 : un = cb (A 6) (F 3).toNat := by rw [hun]; exact sm_cb _ _
  have hun3 := cb_le (A 6) (F 3).toNat
  have cw : 0 ≤ p → p < F 3 → ∀ v, cb (wr (A 6) p v) (F 3).toNat = cb (A 6) (F 3).toNat + ((if v = 0 then 0 else 1) - (if rd (A 6) p = 0 then 0 else 1)) := fun q1 q2 v => by
    rw [cb_wr q1 (by omega), if_pos (by omega)]
  refine R_s (P := True) (f' := (5, [some (vR 1), some (vI p), some (vI q), none], [vI p, vR 2], LAY (shA A) (shF F), 0, 0)) hc62 3 rfl trivial ?_
  refine R_cv hc62 rfl rfl ?_ (fun r G h => h)
  refine R_s (P := True) (f' := (1, [some (vR 2), some (vI p)], [vI p], LAY (shA A) (shF F), 0, 0)) hc5 1 rfl trivial ?_
  refine R_if (t := 16) hc5 rfl rfl (fun (c1 : p < 0) => ?_) (fun (c1 : ¬ (p < 0)) => ?_)
  · refine R_s (P := True) (f' := (17, [some (vR 2), some (vI p)], [vI 0], LAY (shA A) (shF F), 0, 0)) hc5 1 rfl trivial ?_
    refine R_retz hc5 rfl rfl (Or.inl rfl) ?_
    refine R_s (f' := (8, [some (vR 1), some (vI p), some (vI q), none], [vI 0], LAY (shA A) (shF F), 0, 0)) hc62 0 rfl trivial ?_
    refine R_if (t := 18) hc62 rfl rfl (fun (z : ¬ 0 = 0) => absurd z (by decide)) (fun (_ : ¬ (¬ 0 = 0)) => ?_)
    refine R_s (P := True) (f' := (14, [some (vR 1), some (vI p), some (vI q), none], [vI (-3), vR 1], LAY (shA A) (shF F), 0, 0)) hc62 2 rfl trivial ?_
    refine R_cv hc62 rfl rfl ?_ (fun r G h => h)
    refine R_s (P := True) (f' := (3, [some (vR 1), some (vI (-3))], [vI (-2), vI (-3)], LAY (shA A) (shF F), 0, 0)) hc93 2 rfl trivial ?_
    refine R_ic (t := 23) hc93 rfl rfl (fun (z : (-2) < (-3)) => absurd z (by decide)) (fun (_ : ¬ ((-2) < (-3))) => ?_)
    refine R_s (P := True) (f' := (9, [some (vR 1), some (vI (-3))], [vI (-8), vI (-3)], LAY (shA A) (shF F), 0, 0)) hc93 2 rfl trivial ?_
    refine R_ic (t := 23) hc93 rfl rfl (fun (z : (-3) < (-8)) => absurd z (by decide)) (fun (_ : ¬ ((-3) < (-8))) => ?_)
    refine R_s (P := inI 3 ∧ (0 ≤ 3 ∧ 3 < ((A 87).length : Int)) ∧ inI ((rd (A 87) 3) + 1) ∧ (0 ≤ 3 ∧ 3 < ((A 87).length : Int)) ∧ True) (f' := (24, [some (vR 1), some (vI (-3))], [vI (-3)], LAY (u (shA A) 87 (wr (A 87) 3 ((rd (A 87) 3) + 1))) (shF F), 0, 0)) hc93 10 rfl ⟨⟨by omega, by omega⟩, ⟨by omega, by omega⟩, ⟨by omega, by omega⟩, ⟨by omega, by omega⟩, trivial⟩ ?_
    refine R_reti hc93 rfl rfl ?_
    refine R_s (f' := (17, [some (vR 1), some (vI p), some (vI q), none], [vI (-3)], LAY (u (shA A) 87 (wr (A 87) 3 ((rd (A 87) 3) + 1))) (shF F), 0, 0)) hc62 0 rfl trivial ?_
    refine R_reti hc62 rfl rfl ?_
    first
      | (exfalso; omega; done)
      | exact ⟨(-3), (u A 87 (wr (A 87) 3 ((rd (A 87) 3) + 1))), F, REL_ref hR0 (by decide) (by decide), rfl, rfl, rfl, ⟨rfl, rfl, rfl, rfl, by first | exact Int.le_refl _ | (show F 3 ≤ F 3 + 1; omega), rfl, rfl, rfl, rfl, rfl, rfl⟩⟩
  · refine R_s (P := True) (f' := (9, [some (vR 2), some (vI p)], [vI (F 3), vI p], LAY (shA A) (shF F), 0, 0)) hc5 3 rfl trivial ?_
    refine R_ic (t := 16) hc5 rfl rfl (fun (c2 : F 3 ≤ p) => ?_) (fun (c2 : ¬ (F 3 ≤ p)) => ?_)
    · refine R_s (P := True) (f' := (17, [some (vR 2), some (vI p)], [vI 0], LAY (shA A) (shF F), 0, 0)) hc5 1 rfl trivial ?_
      refine R_retz hc5 rfl rfl (Or.inl rfl) ?_
      refine R_s (f' := (8, [some (vR 1), some (vI p), some (vI q), none], [vI 0], LAY (shA A) (shF F), 0, 0)) hc62 0 rfl trivial ?_
      refine R_if (t := 18) hc62 rfl rfl (fun (z : ¬ 0 = 0) => absurd z (by decide)) (fun (_ : ¬ (¬ 0 = 0)) => ?_)
      refine R_s (P := True) (f' := (14, [some (vR 1), some (vI p), some (vI q), none], [vI (-3), vR 1], LAY (shA A) (shF F), 0, 0)) hc62 2 rfl trivial ?_
      refine R_cv hc62 rfl rfl ?_ (fun r G h => h)
      refine R_s (P := True) (f' := (3, [some (vR 1), some (vI (-3))], [vI (-2), vI (-3)], LAY (shA A) (shF F), 0, 0)) hc93 2 rfl trivial ?_
      refine R_ic (t := 23) hc93 rfl rfl (fun (z : (-2) < (-3)) => absurd z (by decide)) (fun (_ : ¬ ((-2) < (-3))) => ?_)
      refine R_s (P := True) (f' := (9, [some (vR 1), some (vI (-3))], [vI (-8), vI (-3)], LAY (shA A) (shF F), 0, 0)) hc93 2 rfl trivial ?_
      refine R_ic (t := 23) hc93 rfl rfl (fun (z : (-3) < (-8)) => absurd z (by decide)) (fun (_ : ¬ ((-3) < (-8))) => ?_)
      refine R_s (P := inI 3 ∧ (0 ≤ 3 ∧ 3 < ((A 87).length : Int)) ∧ inI ((rd (A 87) 3) + 1) ∧ (0 ≤ 3 ∧ 3 < ((A 87).length : Int)) ∧ True) (f' := (24, [some (vR 1), some (vI (-3))], [vI (-3)], LAY (u (shA A) 87 (wr (A 87) 3 ((rd (A 87) 3) + 1))) (shF F), 0, 0)) hc93 10 rfl ⟨⟨by omega, by omega⟩, ⟨by omega, by omega⟩, ⟨by omega, by omega⟩, ⟨by omega, by omega⟩, trivial⟩ ?_
      refine R_reti hc93 rfl rfl ?_
      refine R_s (f' := (17, [some (vR 1), some (vI p), some (vI q), none], [vI (-3)], LAY (u (shA A) 87 (wr (A 87) 3 ((rd (A 87) 3) + 1))) (shF F), 0, 0)) hc62 0 rfl trivial ?_
      refine R_reti hc62 rfl rfl ?_
      first
        | (exfalso; omega; done)
        | exact ⟨(-3), (u A 87 (wr (A 87) 3 ((rd (A 87) 3) + 1))), F, REL_ref hR0 (by decide) (by decide), rfl, rfl, rfl, ⟨rfl, rfl, rfl, rfl, by first | exact Int.le_refl _ | (show F 3 ≤ F 3 + 1; omega), rfl, rfl, rfl, rfl, rfl, rfl⟩⟩
    · refine R_s (P := True) (f' := (17, [some (vR 2), some (vI p)], [vI 1], LAY (shA A) (shF F), 0, 0)) hc5 2 rfl trivial ?_
      refine R_retz hc5 rfl rfl (Or.inr rfl) ?_
      refine R_s (f' := (8, [some (vR 1), some (vI p), some (vI q), none], [vI 1], LAY (shA A) (shF F), 0, 0)) hc62 0 rfl trivial ?_
      refine R_if (t := 18) hc62 rfl rfl (fun (_ : ¬ 1 = 0) => ?_) (fun (z : ¬ (¬ 1 = 0)) => absurd (by decide) z)
      refine R_s (P := True) (f' := (19, [some (vR 1), some (vI p), some (vI q), none], [vI q], LAY (shA A) (shF F), 0, 0)) hc62 1 rfl trivial ?_
      refine R_cs hc62 rfl rfl ?_ (fun r G h => h)
      refine R_s (P := True) (f' := (1, [some (vI q)], [vI q], LAY (shA A) (shF F), 0, 0)) hc94 1 rfl trivial ?_
      refine R_if (t := 9) hc94 rfl rfl (fun (c4 : q = 0) => ?_) (fun (c4 : ¬ (q = 0)) => ?_)
      · refine R_s (P := True) (f' := (14, [some (vI q)], [vI 1], LAY (shA A) (shF F), 0, 0)) hc94 2 rfl trivial ?_
        refine R_retz hc94 rfl rfl (Or.inr rfl) ?_
        refine R_s (f' := (22, [some (vR 1), some (vI p), some (vI q), none], [vI 1], LAY (shA A) (shF F), 0, 0)) hc62 0 rfl trivial ?_
        refine R_if (t := 32) hc62 rfl rfl (fun (_ : ¬ 1 = 0) => ?_) (fun (z : ¬ (¬ 1 = 0)) => absurd (by decide) z)
        refine R_s (P := (0 ≤ p ∧ p < ((A 6).length : Int)) ∧ True) (f' := (41, [some (vR 1), some (vI p), some (vI q), none], [vI (rd (A 6) p)], LAY (shA A) (shF F), 0, 0)) hc62 5 rfl ⟨⟨by omega, by omega⟩, trivial⟩ ?_
        refine R_cs hc62 rfl rfl ?_ (fun r G h => h)
        refine R_s (P := True) (f' := (1, [some (vI (rd (A 6) p))], [vI (rd (A 6) p)], LAY (shA A) (shF F), 0, 0)) hc95 1 rfl trivial ?_
        refine R_if (t := 8) hc95 rfl rfl (fun (c6 : rd (A 6) p = 0) => ?_) (fun (c6 : ¬ (rd (A 6) p = 0)) => ?_)
        · refine R_s (P := True) (f' := (9, [some (vI (rd (A 6) p))], [vI 0], LAY (shA A) (shF F), 0, 0)) hc95 1 rfl trivial ?_
          refine R_reti hc95 rfl rfl ?_
          refine R_s (f' := (44, [some (vR 1), some (vI p), some (vI q), none], [vI 0], LAY (shA A) (shF F), 0, 0)) hc62 0 rfl trivial ?_
          refine R_s (P := True) (f' := (47, [some (vR 1), some (vI p), some (vI q), some (vI 0)], [vI 1, vI q], LAY (shA A) (shF F), 0, 0)) hc62 3 rfl trivial ?_
          refine R_ic (t := 81) hc62 rfl rfl (fun (_ : ¬ q = 1) => ?_) (fun (z : ¬ (¬ q = 1)) => absurd (show ¬ q = 1 by omega) z)
          refine R_s (P := True) (f' := (83, [some (vR 1), some (vI p), some (vI q), some (vI 0)], [vI 1, vI 0], LAY (shA A) (shF F), 0, 0)) hc62 2 rfl trivial ?_
          refine R_ic (t := 95) hc62 rfl rfl (fun (_ : ¬ 0 = 1) => ?_) (fun (z : ¬ (¬ 0 = 1)) => absurd (by decide) z)
          refine R_s (P := True) (f' := (96, [some (vR 1), some (vI p), some (vI q), some (vI 0)], [vI 0], LAY (shA A) (shF F), 0, 0)) hc62 1 rfl trivial ?_
          refine R_reti hc62 rfl rfl ?_
          first
            | (exfalso; omega; done)
            | exact ⟨0, A, F, REL_c hR0, rfl, rfl, rfl, ⟨rfl, rfl, rfl, rfl, by first | exact Int.le_refl _ | (show F 3 ≤ F 3 + 1; omega), rfl, rfl, rfl, rfl, rfl, rfl⟩⟩
        · refine R_s (P := True) (f' := (9, [some (vI (rd (A 6) p))], [vI 1], LAY (shA A) (shF F), 0, 0)) hc95 2 rfl trivial ?_
          refine R_reti hc95 rfl rfl ?_
          refine R_s (f' := (44, [some (vR 1), some (vI p), some (vI q), none], [vI 1], LAY (shA A) (shF F), 0, 0)) hc62 0 rfl trivial ?_
          refine R_s (P := True) (f' := (47, [some (vR 1), some (vI p), some (vI q), some (vI 1)], [vI 1, vI q], LAY (shA A) (shF F), 0, 0)) hc62 3 rfl trivial ?_
          refine R_ic (t := 81) hc62 rfl rfl (fun (_ : ¬ q = 1) => ?_) (fun (z : ¬ (¬ q = 1)) => absurd (show ¬ q = 1 by omega) z)
          refine R_s (P := True) (f' := (83, [some (vR 1), some (vI p), some (vI q), some (vI 1)], [vI 1, vI 1], LAY (shA A) (shF F), 0, 0)) hc62 2 rfl trivial ?_
          refine R_ic (t := 95) hc62 rfl rfl (fun (z : ¬ 1 = 1) => absurd z (by decide)) (fun (_ : ¬ (¬ 1 = 1)) => ?_)
          refine R_s (P := True) (f' := (92, [some (vR 1), some (vI p), some (vI q), some (vI 1)], [vI (-1), vI p, vR 2], LAY (shA A) (shF F), 0, 0)) hc62 4 rfl trivial ?_
          refine R_cv hc62 rfl rfl ?_ (fun r G h => h)
          refine R_s (P := (0 ≤ p ∧ p < ((A 5).length : Int)) ∧ ((0 ≤ p ∧ p < ((A 6).length : Int)) ∧ (0 = 0 ∨ 0 = 1)) ∧ True) (f' := (14, [some (vR 2), some (vI p), some (vI (-1))], [], LAY (u (u (shA A) 5 (wr (A 5) p (-1))) 6 (wr (A 6) p 0)) (shF F), 0, 0)) hc8 10 rfl ⟨⟨by omega, by omega⟩, ⟨⟨by omega, by omega⟩, by omega⟩, trivial⟩ ?_
          refine R_retv hc8 rfl rfl ?_
          refine R_s (f' := (95, [some (vR 1), some (vI p), some (vI q), some (vI 1)], [], LAY (u (u (shA A) 5 (wr (A 5) p (-1))) 6 (wr (A 6) p 0)) (shF F), 0, 0)) hc62 0 rfl trivial ?_
          refine R_s (P := True) (f' := (96, [some (vR 1), some (vI p), some (vI q), some (vI 1)], [vI 1], LAY (u (u (shA A) 5 (wr (A 5) p (-1))) 6 (wr (A 6) p 0)) (shF F), 0, 0)) hc62 1 rfl trivial ?_
          refine R_reti hc62 rfl rfl ?_
          first
            | (exfalso; omega; done)
            | exact ⟨1, (u (u (u A 5 (wr (A 5) p (-1))) 6 (wr (A 6) p 0)) 94 (wr (A 94) p 0)), F, ⟨(LENS_u (LENS_u (LENS_u hL (by show (wr (A 5) p (-1)).length = (A 5).length; simp only [wr_len])) (by show (wr (A 6) p 0).length = (A 6).length; simp only [wr_len])) (by show (wr (A 94) p 0).length = (A 94).length; simp only [wr_len])), (PERS_unk hR0.2.1 (hL 5 (by decide)) (hL 6 (by decide)) (hL 7 (by decide)) (hL 94 (by decide)) (p := p) (v := 0) ⟨by omega, by omega⟩ (by decide) (D' := wr (A 5) p (-1)) (.inr rfl) (T' := A 7) (.inl rfl) (fun q => absurd q (by decide)) (by rw [cw (by omega) (by omega)]; (repeat' split) <;> omega)), hR0.2.2.1, hR0.2.2.2.1, hR0.2.2.2.2.1, hR0.2.2.2.2.2.1, hR0.2.2.2.2.2.2.1, hR0.2.2.2.2.2.2.2.1, hR0.2.2.2.2.2.2.2.2.1, (REFU_c hR0.2.2.2.2.2.2.2.2.2)⟩, rfl, rfl, rfl, ⟨rfl, rfl, rfl, rfl, by first | exact Int.le_refl _ | (show F 3 ≤ F 3 + 1; omega), rfl, rfl, rfl, rfl, rfl, rfl⟩⟩
      · refine R_s (P := True) (f' := (6, [some (vI q)], [vI 1, vI q], LAY (shA A) (shF F), 0, 0)) hc94 2 rfl trivial ?_
        refine R_ic (t := 13) hc94 rfl rfl (fun (c5 : ¬ q = 1) => ?_) (fun (c5 : ¬ (¬ q = 1)) => ?_)
        · refine R_s (P := True) (f' := (14, [some (vI q)], [vI 0], LAY (shA A) (shF F), 0, 0)) hc94 1 rfl trivial ?_
          refine R_retz hc94 rfl rfl (Or.inl rfl) ?_
          refine R_s (f' := (22, [some (vR 1), some (vI p), some (vI q), none], [vI 0], LAY (shA A) (shF F), 0, 0)) hc62 0 rfl trivial ?_
          refine R_if (t := 32) hc62 rfl rfl (fun (z : ¬ 0 = 0) => absurd z (by decide)) (fun (_ : ¬ (¬ 0 = 0)) => ?_)
          refine R_s (P := True) (f' := (28, [some (vR 1), some (vI p), some (vI q), none], [vI (-7), vR 1], LAY (shA A) (shF F), 0, 0)) hc62 2 rfl trivial ?_
          refine R_cv hc62 rfl rfl ?_ (fun r G h => h)
          refine R_s (P := True) (f' := (3, [some (vR 1), some (vI (-7))], [vI (-2), vI (-7)], LAY (shA A) (shF F), 0, 0)) hc93 2 rfl trivial ?_
          refine R_ic (t := 23) hc93 rfl rfl (fun (z : (-2) < (-7)) => absurd z (by decide)) (fun (_ : ¬ ((-2) < (-7))) => ?_)
          refine R_s (P := True) (f' := (9, [some (vR 1), some (vI (-7))], [vI (-8), vI (-7)], LAY (shA A) (shF F), 0, 0)) hc93 2 rfl trivial ?_
          refine R_ic (t := 23) hc93 rfl rfl (fun (z : (-7) < (-8)) => absurd z (by decide)) (fun (_ : ¬ ((-7) < (-8))) => ?_)
          refine R_s (P := inI 7 ∧ (0 ≤ 7 ∧ 7 < ((A 87).length : Int)) ∧ inI ((rd (A 87) 7) + 1) ∧ (0 ≤ 7 ∧ 7 < ((A 87).length : Int)) ∧ True) (f' := (24, [some (vR 1), some (vI (-7))], [vI (-7)], LAY (u (shA A) 87 (wr (A 87) 7 ((rd (A 87) 7) + 1))) (shF F), 0, 0)) hc93 10 rfl ⟨⟨by omega, by omega⟩, ⟨by omega, by omega⟩, ⟨by omega, by omega⟩, ⟨by omega, by omega⟩, trivial⟩ ?_
          refine R_reti hc93 rfl rfl ?_
          refine R_s (f' := (31, [some (vR 1), some (vI p), some (vI q), none], [vI (-7)], LAY (u (shA A) 87 (wr (A 87) 7 ((rd (A 87) 7) + 1))) (shF F), 0, 0)) hc62 0 rfl trivial ?_
          refine R_reti hc62 rfl rfl ?_
          first
            | (exfalso; omega; done)
            | exact ⟨(-7), (u A 87 (wr (A 87) 7 ((rd (A 87) 7) + 1))), F, REL_ref hR0 (by decide) (by decide), rfl, rfl, rfl, ⟨rfl, rfl, rfl, rfl, by first | exact Int.le_refl _ | (show F 3 ≤ F 3 + 1; omega), rfl, rfl, rfl, rfl, rfl, rfl⟩⟩
        · refine R_s (P := True) (f' := (14, [some (vI q)], [vI 1], LAY (shA A) (shF F), 0, 0)) hc94 2 rfl trivial ?_
          refine R_retz hc94 rfl rfl (Or.inr rfl) ?_
          refine R_s (f' := (22, [some (vR 1), some (vI p), some (vI q), none], [vI 1], LAY (shA A) (shF F), 0, 0)) hc62 0 rfl trivial ?_
          refine R_if (t := 32) hc62 rfl rfl (fun (_ : ¬ 1 = 0) => ?_) (fun (z : ¬ (¬ 1 = 0)) => absurd (by decide) z)
          refine R_s (P := (0 ≤ p ∧ p < ((A 6).length : Int)) ∧ True) (f' := (41, [some (vR 1), some (vI p), some (vI q), none], [vI (rd (A 6) p)], LAY (shA A) (shF F), 0, 0)) hc62 5 rfl ⟨⟨by omega, by omega⟩, trivial⟩ ?_
          refine R_cs hc62 rfl rfl ?_ (fun r G h => h)
          refine R_s (P := True) (f' := (1, [some (vI (rd (A 6) p))], [vI (rd (A 6) p)], LAY (shA A) (shF F), 0, 0)) hc95 1 rfl trivial ?_
          refine R_if (t := 8) hc95 rfl rfl (fun (c7 : rd (A 6) p = 0) => ?_) (fun (c7 : ¬ (rd (A 6) p = 0)) => ?_)
          · refine R_s (P := True) (f' := (9, [some (vI (rd (A 6) p))], [vI 0], LAY (shA A) (shF F), 0, 0)) hc95 1 rfl trivial ?_
            refine R_reti hc95 rfl rfl ?_
            refine R_s (f' := (44, [some (vR 1), some (vI p), some (vI q), none], [vI 0], LAY (shA A) (shF F), 0, 0)) hc62 0 rfl trivial ?_
            refine R_s (P := True) (f' := (47, [some (vR 1), some (vI p), some (vI q), some (vI 0)], [vI 1, vI q], LAY (shA A) (shF F), 0, 0)) hc62 3 rfl trivial ?_
            refine R_ic (t := 81) hc62 rfl rfl (fun (z : ¬ q = 1) => absurd z (by omega)) (fun (_ : ¬ (¬ q = 1)) => ?_)
            refine R_s (P := True) (f' := (54, [some (vR 1), some (vI p), some (vI q), some (vI 0)], [vR 2], LAY (shA A) (shF F), 0, 0)) hc62 2 rfl trivial ?_
            refine R_cv hc62 rfl rfl (l_unsure (A := (shA A)) (F := (shF F)) (LENS_sh hL) ⟨p1, p2⟩) (fun r G9 hp9 => ?_)
            obtain ⟨e1, rfl⟩ := hp9
            have e2 : r = some (vI un) := by rw [hun]; exact e1
            clear e1
            subst e2
            refine R_s (f' := (57, [some (vR 1), some (vI p), some (vI q), some (vI 0)], [vI un], LAY (shA A) (shF F), 0, 0)) hc62 0 rfl trivial ?_
            refine R_s (P := inI (un - 0) ∧ True) (f' := (60, [some (vR 1), some (vI p), some (vI q), some (vI 0)], [vI 5, vI (un - 0)], LAY (shA A) (shF F), 0, 0)) hc62 3 rfl ⟨⟨by omega, by omega⟩, trivial⟩ ?_
            refine R_ic (t := 70) hc62 rfl rfl (fun (c9 : un - 0 < 5) => ?_) (fun (c9 : ¬ (un - 0 < 5)) => ?_)
            · refine R_s (P := True) (f' := (75, [some (vR 1), some (vI p), some (vI q), some (vI 0)], [vI p, vR 2], LAY (shA A) (shF F), 0, 0)) hc62 3 rfl trivial ?_
              refine R_cv hc62 rfl rfl ?_ (fun r G h => h)
              refine R_s (P := (0 ≤ p ∧ p < ((A 5).length : Int)) ∧ ((0 ≤ p ∧ p < ((A 6).length : Int)) ∧ (1 = 0 ∨ 1 = 1)) ∧ ((0 ≤ p ∧ p < ((A 7).length : Int)) ∧ (0 = 0 ∨ 0 = 1)) ∧ True) (f' := (21, [some (vR 2), some (vI p)], [], LAY (u (u (u (shA A) 5 (wr (A 5) p (-1))) 6 (wr (A 6) p 1)) 7 (wr (A 7) p 0)) (shF F), 0, 0)) hc9 15 rfl ⟨⟨by omega, by omega⟩, ⟨⟨by omega, by omega⟩, by omega⟩, ⟨⟨by omega, by omega⟩, by omega⟩, trivial⟩ ?_
              refine R_retv hc9 rfl rfl ?_
              refine R_s (f' := (78, [some (vR 1), some (vI p), some (vI q), some (vI 0)], [], LAY (u (u (u (shA A) 5 (wr (A 5) p (-1))) 6 (wr (A 6) p 1)) 7 (wr (A 7) p 0)) (shF F), 0, 0)) hc62 0 rfl trivial ?_
              refine R_s (P := True) (f' := (96, [some (vR 1), some (vI p), some (vI q), some (vI 0)], [vI 0], LAY (u (u (u (shA A) 5 (wr (A 5) p (-1))) 6 (wr (A 6) p 1)) 7 (wr (A 7) p 0)) (shF F), 0, 0)) hc62 2 rfl trivial ?_
              refine R_reti hc62 rfl rfl ?_
              first
                | (exfalso; omega; done)
                | exact ⟨0, (u (u (u (u A 5 (wr (A 5) p (-1))) 6 (wr (A 6) p 1)) 7 (wr (A 7) p 0)) 94 (wr (A 94) p 0)), F, ⟨(LENS_u (LENS_u (LENS_u (LENS_u hL (by show (wr (A 5) p (-1)).length = (A 5).length; simp only [wr_len])) (by show (wr (A 6) p 1).length = (A 6).length; simp only [wr_len])) (by show (wr (A 7) p 0).length = (A 7).length; simp only [wr_len])) (by show (wr (A 94) p 0).length = (A 94).length; simp only [wr_len])), (PERS_unk hR0.2.1 (hL 5 (by decide)) (hL 6 (by decide)) (hL 7 (by decide)) (hL 94 (by decide)) (p := p) (v := 1) ⟨by omega, by omega⟩ (by decide) (D' := wr (A 5) p (-1)) (.inr rfl) (T' := wr (A 7) p 0) (.inr rfl) (fun _ => rfl) (by rw [cw (by omega) (by omega)]; (repeat' split) <;> omega)), hR0.2.2.1, hR0.2.2.2.1, hR0.2.2.2.2.1, hR0.2.2.2.2.2.1, hR0.2.2.2.2.2.2.1, hR0.2.2.2.2.2.2.2.1, hR0.2.2.2.2.2.2.2.2.1, (REFU_c hR0.2.2.2.2.2.2.2.2.2)⟩, rfl, rfl, rfl, ⟨rfl, rfl, rfl, rfl, by first | exact Int.le_refl _ | (show F 3 ≤ F 3 + 1; omega), rfl, rfl, rfl, rfl, rfl, rfl⟩⟩
            · refine R_s (P := True) (f' := (66, [some (vR 1), some (vI p), some (vI q), some (vI 0)], [vI (-8), vR 1], LAY (shA A) (shF F), 0, 0)) hc62 2 rfl trivial ?_
              refine R_cv hc62 rfl rfl ?_ (fun r G h => h)
              refine R_s (P := True) (f' := (3, [some (vR 1), some (vI (-8))], [vI (-2), vI (-8)], LAY (shA A) (shF F), 0, 0)) hc93 2 rfl trivial ?_
              refine R_ic (t := 23) hc93 rfl rfl (fun (z : (-2) < (-8)) => absurd z (by decide)) (fun (_ : ¬ ((-2) < (-8))) => ?_)
              refine R_s (P := True) (f' := (9, [some (vR 1), some (vI (-8))], [vI (-8), vI (-8)], LAY (shA A) (shF F), 0, 0)) hc93 2 rfl trivial ?_
              refine R_ic (t := 23) hc93 rfl rfl (fun (z : (-8) < (-8)) => absurd z (by decide)) (fun (_ : ¬ ((-8) < (-8))) => ?_)
              refine R_s (P := inI 8 ∧ (0 ≤ 8 ∧ 8 < ((A 87).length : Int)) ∧ inI ((rd (A 87) 8) + 1) ∧ (0 ≤ 8 ∧ 8 < ((A 87).length : Int)) ∧ True) (f' := (24, [some (vR 1), some (vI (-8))], [vI (-8)], LAY (u (shA A) 87 (wr (A 87) 8 ((rd (A 87) 8) + 1))) (shF F), 0, 0)) hc93 10 rfl ⟨⟨by omega, by omega⟩, ⟨by omega, by omega⟩, ⟨by omega, by omega⟩, ⟨by omega, by omega⟩, trivial⟩ ?_
              refine R_reti hc93 rfl rfl ?_
              refine R_s (f' := (69, [some (vR 1), some (vI p), some (vI q), some (vI 0)], [vI (-8)], LAY (u (shA A) 87 (wr (A 87) 8 ((rd (A 87) 8) + 1))) (shF F), 0, 0)) hc62 0 rfl trivial ?_
              refine R_reti hc62 rfl rfl ?_
              first
                | (exfalso; omega; done)
                | exact ⟨(-8), (u A 87 (wr (A 87) 8 ((rd (A 87) 8) + 1))), F, REL_ref hR0 (by decide) (by decide), rfl, rfl, rfl, ⟨rfl, rfl, rfl, rfl, by first | exact Int.le_refl _ | (show F 3 ≤ F 3 + 1; omega), rfl, rfl, rfl, rfl, rfl, rfl⟩⟩
          · refine R_s (P := True) (f' := (9, [some (vI (rd (A 6) p))], [vI 1], LAY (shA A) (shF F), 0, 0)) hc95 2 rfl trivial ?_
            refine R_reti hc95 rfl rfl ?_
            refine R_s (f' := (44, [some (vR 1), some (vI p), some (vI q), none], [vI 1], LAY (shA A) (shF F), 0, 0)) hc62 0 rfl trivial ?_
            refine R_s (P := True) (f' := (47, [some (vR 1), some (vI p), some (vI q), some (vI 1)], [vI 1, vI q], LAY (shA A) (shF F), 0, 0)) hc62 3 rfl trivial ?_
            refine R_ic (t := 81) hc62 rfl rfl (fun (z : ¬ q = 1) => absurd z (by omega)) (fun (_ : ¬ (¬ q = 1)) => ?_)
            refine R_s (P := True) (f' := (54, [some (vR 1), some (vI p), some (vI q), some (vI 1)], [vR 2], LAY (shA A) (shF F), 0, 0)) hc62 2 rfl trivial ?_
            refine R_cv hc62 rfl rfl (l_unsure (A := (shA A)) (F := (shF F)) (LENS_sh hL) ⟨p1, p2⟩) (fun r G9 hp9 => ?_)
            obtain ⟨e1, rfl⟩ := hp9
            have e2 : r = some (vI un) := by rw [hun]; exact e1
            clear e1
            subst e2
            refine R_s (f' := (57, [some (vR 1), some (vI p), some (vI q), some (vI 1)], [vI un], LAY (shA A) (shF F), 0, 0)) hc62 0 rfl trivial ?_
            refine R_s (P := inI (un - 1) ∧ True) (f' := (60, [some (vR 1), some (vI p), some (vI q), some (vI 1)], [vI 5, vI (un - 1)], LAY (shA A) (shF F), 0, 0)) hc62 3 rfl ⟨⟨by omega, by omega⟩, trivial⟩ ?_
            refine R_ic (t := 70) hc62 rfl rfl (fun (c9 : un - 1 < 5) => ?_) (fun (c9 : ¬ (un - 1 < 5)) => ?_)
            · refine R_s (P := True) (f' := (75, [some (vR 1), some (vI p), some (vI q), some (vI 1)], [vI p, vR 2], LAY (shA A) (shF F), 0, 0)) hc62 3 rfl trivial ?_
              refine R_cv hc62 rfl rfl ?_ (fun r G h => h)
              refine R_s (P := (0 ≤ p ∧ p < ((A 5).length : Int)) ∧ ((0 ≤ p ∧ p < ((A 6).length : Int)) ∧ (1 = 0 ∨ 1 = 1)) ∧ ((0 ≤ p ∧ p < ((A 7).length : Int)) ∧ (0 = 0 ∨ 0 = 1)) ∧ True) (f' := (21, [some (vR 2), some (vI p)], [], LAY (u (u (u (shA A) 5 (wr (A 5) p (-1))) 6 (wr (A 6) p 1)) 7 (wr (A 7) p 0)) (shF F), 0, 0)) hc9 15 rfl ⟨⟨by omega, by omega⟩, ⟨⟨by omega, by omega⟩, by omega⟩, ⟨⟨by omega, by omega⟩, by omega⟩, trivial⟩ ?_
              refine R_retv hc9 rfl rfl ?_
              refine R_s (f' := (78, [some (vR 1), some (vI p), some (vI q), some (vI 1)], [], LAY (u (u (u (shA A) 5 (wr (A 5) p (-1))) 6 (wr (A 6) p 1)) 7 (wr (A 7) p 0)) (shF F), 0, 0)) hc62 0 rfl trivial ?_
              refine R_s (P := True) (f' := (96, [some (vR 1), some (vI p), some (vI q), some (vI 1)], [vI 1], LAY (u (u (u (shA A) 5 (wr (A 5) p (-1))) 6 (wr (A 6) p 1)) 7 (wr (A 7) p 0)) (shF F), 0, 0)) hc62 2 rfl trivial ?_
              refine R_reti hc62 rfl rfl ?_
              first
                | (exfalso; omega; done)
                | exact ⟨1, (u (u (u (u A 5 (wr (A 5) p (-1))) 6 (wr (A 6) p 1)) 7 (wr (A 7) p 0)) 94 (wr (A 94) p 0)), F, ⟨(LENS_u (LENS_u (LENS_u (LENS_u hL (by show (wr (A 5) p (-1)).length = (A 5).length; simp only [wr_len])) (by show (wr (A 6) p 1).length = (A 6).length; simp only [wr_len])) (by show (wr (A 7) p 0).length = (A 7).length; simp only [wr_len])) (by show (wr (A 94) p 0).length = (A 94).length; simp only [wr_len])), (PERS_unk hR0.2.1 (hL 5 (by decide)) (hL 6 (by decide)) (hL 7 (by decide)) (hL 94 (by decide)) (p := p) (v := 1) ⟨by omega, by omega⟩ (by decide) (D' := wr (A 5) p (-1)) (.inr rfl) (T' := wr (A 7) p 0) (.inr rfl) (fun _ => rfl) (by rw [cw (by omega) (by omega)]; (repeat' split) <;> omega)), hR0.2.2.1, hR0.2.2.2.1, hR0.2.2.2.2.1, hR0.2.2.2.2.2.1, hR0.2.2.2.2.2.2.1, hR0.2.2.2.2.2.2.2.1, hR0.2.2.2.2.2.2.2.2.1, (REFU_c hR0.2.2.2.2.2.2.2.2.2)⟩, rfl, rfl, rfl, ⟨rfl, rfl, rfl, rfl, by first | exact Int.le_refl _ | (show F 3 ≤ F 3 + 1; omega), rfl, rfl, rfl, rfl, rfl, rfl⟩⟩
            · refine R_s (P := True) (f' := (66, [some (vR 1), some (vI p), some (vI q), some (vI 1)], [vI (-8), vR 1], LAY (shA A) (shF F), 0, 0)) hc62 2 rfl trivial ?_
              refine R_cv hc62 rfl rfl ?_ (fun r G h => h)
              refine R_s (P := True) (f' := (3, [some (vR 1), some (vI (-8))], [vI (-2), vI (-8)], LAY (shA A) (shF F), 0, 0)) hc93 2 rfl trivial ?_
              refine R_ic (t := 23) hc93 rfl rfl (fun (z : (-2) < (-8)) => absurd z (by decide)) (fun (_ : ¬ ((-2) < (-8))) => ?_)
              refine R_s (P := True) (f' := (9, [some (vR 1), some (vI (-8))], [vI (-8), vI (-8)], LAY (shA A) (shF F), 0, 0)) hc93 2 rfl trivial ?_
              refine R_ic (t := 23) hc93 rfl rfl (fun (z : (-8) < (-8)) => absurd z (by decide)) (fun (_ : ¬ ((-8) < (-8))) => ?_)
              refine R_s (P := inI 8 ∧ (0 ≤ 8 ∧ 8 < ((A 87).length : Int)) ∧ inI ((rd (A 87) 8) + 1) ∧ (0 ≤ 8 ∧ 8 < ((A 87).length : Int)) ∧ True) (f' := (24, [some (vR 1), some (vI (-8))], [vI (-8)], LAY (u (shA A) 87 (wr (A 87) 8 ((rd (A 87) 8) + 1))) (shF F), 0, 0)) hc93 10 rfl ⟨⟨by omega, by omega⟩, ⟨by omega, by omega⟩, ⟨by omega, by omega⟩, ⟨by omega, by omega⟩, trivial⟩ ?_
              refine R_reti hc93 rfl rfl ?_
              refine R_s (f' := (69, [some (vR 1), some (vI p), some (vI q), some (vI 1)], [vI (-8)], LAY (u (shA A) 87 (wr (A 87) 8 ((rd (A 87) 8) + 1))) (shF F), 0, 0)) hc62 0 rfl trivial ?_
              refine R_reti hc62 rfl rfl ?_
              first
                | (exfalso; omega; done)
                | exact ⟨(-8), (u A 87 (wr (A 87) 8 ((rd (A 87) 8) + 1))), F, REL_ref hR0 (by decide) (by decide), rfl, rfl, rfl, ⟨rfl, rfl, rfl, rfl, by first | exact Int.le_refl _ | (show F 3 ≤ F 3 + 1; omega), rfl, rfl, rfl, rfl, rfl, rfl⟩⟩

