/-- a row with given entries -/
theorem GHl (n : Nat) (f : Int → Int) : ∃ l : List Int, l.length = n ∧ ∀ q : Nat, q < n → rd l q = f q := by
  refine ⟨(List.range n).map (fun (q : Nat) => f q), by simp, fun q hq => ?_⟩
  unfold rd
  rw [Int.toNat_natCast, List.getD_eq_getElem?_getD, List.getElem?_map, List.getElem?_range hq]
  rfl

theorem ACCT_run {c : Int} {A : Nat → List Int} {F : Nat → Int} (hR : REL c A F) {n : Int} (h0 : 1 ≤ n) (h1 : F 2 + n ≤ 600) {l84 l85 l101 : List Int} (hP : ∀ p : Nat, p < 30 → rd l84 p = aP A F n.toNat p) (hH : ∀ h : Nat, h < 8 → rd l85 h = aH A F n.toNat h) (hP2 : ∀ p : Nat, p < 30 → rd l101 p = aP A F n.toNat p) (hH2 : ∀ h : Nat, h < 8 → rd l101 (30 + h) = aH A F n.toNat h) : ACCT (F 2 + n) l84 l85 l101 := by
  have e : ((n.toNat : Nat) : Int) = n := by omega
  refine ⟨fun i hi hi2 => ?_, fun i hi hi2 => ?_⟩
  · have q := aP_bd hR n.toNat (by omega) i.toNat (by omega)
    have q1 := hP i.toNat (by omega)
    have q2 := hP2 i.toNat (by omega)
    rw [show ((i.toNat : Nat) : Int) = i by omega] at q1 q2
    rw [e] at q
    rw [q1, q2]
    exact ⟨rfl, q.1, q.2⟩
  · have q := aH_bd hR n.toNat (by omega) i.toNat (by omega)
    have q1 := hH i.toNat (by omega)
    have q2 := hH2 i.toNat (by omega)
    rw [show ((i.toNat : Nat) : Int) = i by omega] at q1 q2 q
    rw [e] at q
    rw [q1, q2]
    exact ⟨rfl, q.1, q.2⟩

theorem op_run {c : Int} {A : Nat → List Int} {F : Nat → Int} (hR : REL c A F) (hc : c < 1000000) (n : Int) (i_n : inI n) (hF2 : F 0 ≤ 2) : R 81 (0, L0 81 [vR 1, vI n], [], LAY (shA A) (shF F), 0, 0) (fun r G => ∃ (x : Int) (A' : Nat → List Int) (F' : Nat → Int), REL (c + 1) A' F' ∧ r = some (vI x) ∧ G = LAY (shA A') (shF F') ∧ A' 0 = A 0 ∧ (n = 1 → F 2 ≤ 599 → x = F 2 + n ∧ F' 2 = F 2 + n ∧ F' 0 = F 0 ∧ F' 3 = F 3 ∧ A' 21 = A 21 ∧ A' 22 = A 22 ∧ A' 30 = A 30 ∧ A' 31 = A 31 ∧ F' 8 = F 8 ∧ F' 9 = F 9 ∧ (∀ p : Nat, p < 30 → rd (A' 84) p = aP A F n.toNat p) ∧ ∀ h : Nat, h < 8 → rd (A' 85) h = aH A F n.toNat h) ∧ (n = 0 → x = -7 ∧ F' 0 = F 0) ∧ (n = -1 → x = -4)) := by
  have hR0 := hR
  obtain ⟨hL, hPE, hTH, hTP, hDE, hLE, hNO, hAC, hRO, hRE⟩ := hR
  have j_n := i_n
  unfold inI at j_n
  have h87 : (A 87).length = 9 := hL 87 (by decide)
  have r2 := REFU_at hRE (k := 2) (by decide) (by decide) hc
  have r3 := REFU_at hRE (k := 3) (by decide) (by decide) hc
  have r4 := REFU_at hRE (k := 4) (by decide) (by decide) hc
  have r5 := REFU_at hRE (k := 5) (by decide) (by decide) hc
  have r6 := REFU_at hRE (k := 6) (by decide) (by decide) hc
  have r7 := REFU_at hRE (k := 7) (by decide) (by decide) hc
  have r8 := REFU_at hRE (k := 8) (by decide) (by decide) hc
  obtain ⟨t1, t2, t3, t4, t5, t6⟩ := hTH
  obtain ⟨p1, p2, p3, p4, p5, p6⟩ := hPE
  refine R_s (P := True) (f' := (1, [some (vR 1), some (vI n), none], [vI n], LAY (shA A) (shF F), 0, 0)) hc81 1 rfl trivial ?_
  refine R_if (t := 11) hc81 rfl rfl (fun (c1 : 0 ≤ n) => ?_) (fun (c1 : ¬ (0 ≤ n)) => ?_)
  · refine R_s (P := True) (f' := (13, [some (vR 1), some (vI n), none], [vI 1, vI n], LAY (shA A) (shF F), 0, 0)) hc81 2 rfl trivial ?_
    refine R_ic (t := 22) hc81 rfl rfl (fun (c2 : n < 1) => ?_) (fun (c2 : ¬ (n < 1)) => ?_)
    · refine R_s (P := True) (f' := (25, [some (vR 1), some (vI n), none], [vI (-7), vR 1], LAY (shA A) (shF F), 0, 0)) hc81 2 rfl trivial ?_
      refine R_cv hc81 rfl rfl ?_ (fun r G h => h)
      refine R_s (P := True) (f' := (3, [some (vR 1), some (vI (-7))], [vI (-2), vI (-7)], LAY (shA A) (shF F), 0, 0)) hc93 2 rfl trivial ?_
      refine R_ic (t := 23) hc93 rfl rfl (fun (z : (-2) < (-7)) => absurd z (by decide)) (fun (_ : ¬ ((-2) < (-7))) => ?_)
      refine R_s (P := True) (f' := (9, [some (vR 1), some (vI (-7))], [vI (-8), vI (-7)], LAY (shA A) (shF F), 0, 0)) hc93 2 rfl trivial ?_
      refine R_ic (t := 23) hc93 rfl rfl (fun (z : (-7) < (-8)) => absurd z (by decide)) (fun (_ : ¬ ((-7) < (-8))) => ?_)
      refine R_s (P := inI 7 ∧ (0 ≤ 7 ∧ 7 < ((A 87).length : Int)) ∧ inI ((rd (A 87) 7) + 1) ∧ (0 ≤ 7 ∧ 7 < ((A 87).length : Int)) ∧ True) (f' := (24, [some (vR 1), some (vI (-7))], [vI (-7)], LAY (u (shA A) 87 (wr (A 87) 7 ((rd (A 87) 7) + 1))) (shF F), 0, 0)) hc93 10 rfl ⟨⟨by omega, by omega⟩, ⟨by omega, by omega⟩, ⟨by omega, by omega⟩, ⟨by omega, by omega⟩, trivial⟩ ?_
      refine R_reti hc93 rfl rfl ?_
      refine R_s (f' := (28, [some (vR 1), some (vI n), none], [vI (-7)], LAY (u (shA A) 87 (wr (A 87) 7 ((rd (A 87) 7) + 1))) (shF F), 0, 0)) hc81 0 rfl trivial ?_
      refine R_reti hc81 rfl rfl ?_
      first
        | (exfalso; omega; done)
        | exact ⟨(-7), (u A 87 (wr (A 87) 7 ((rd (A 87) 7) + 1))), F, REL_ref hR0 (by decide) (by decide), rfl, rfl, rfl, ⟨fun q1 q2 => by exfalso; omega, fun q => ⟨by omega, rfl⟩, fun q => by omega⟩⟩
    · refine R_s (P := True) (f' := (19, [some (vR 1), some (vI n), none], [vI 100, vI n], LAY (shA A) (shF F), 0, 0)) hc81 2 rfl trivial ?_
      refine R_ic (t := 29) hc81 rfl rfl (fun (c5 : n ≤ 100) => ?_) (fun (c5 : ¬ (n ≤ 100)) => ?_)
      · refine R_s (P := inI (600 - (F 2)) ∧ True) (f' := (38, [some (vR 1), some (vI n), none], [vI (600 - (F 2)), vI n], LAY (shA A) (shF F), 0, 0)) hc81 5 rfl ⟨⟨by omega, by omega⟩, trivial⟩ ?_
        refine R_ic (t := 48) hc81 rfl rfl (fun (c6 : n ≤ 600 - (F 2)) => ?_) (fun (c6 : ¬ (n ≤ 600 - (F 2))) => ?_)
        · refine R_s (P := True) (f' := (50, [some (vR 1), some (vI n), some (vI 0)], [], LAY (shA A) (shF F), 0, 0)) hc81 2 rfl trivial ?_
          refine run_C hR0 hF2 (n := n) (by omega) (by omega) (fun x m8 m9 m10 m11 m75 m76 m77 m78 m84 m85 km8 km9 km10 km11 km75 km76 km77 km78 km84 km85 w14 w15 hP hH => ?_)
          obtain ⟨l101, kl101, e101⟩ := GHl 38 (fun q => if q < 30 then rd m84 q else rd m85 (q - 30))
          have hP2 : ∀ p : Nat, p < 30 → rd l101 p = aP A F n.toNat p := fun p hp => by
            rw [e101 p (by omega)]
            (try dsimp only)
            rw [if_pos (by omega)]
            exact hP p hp
          have hH2 : ∀ h : Nat, h < 8 → rd l101 (30 + h) = aH A F n.toNat h := fun h hh => by
            have q := e101 (30 + h) (by omega)
            rw [show (((30 + h : Nat)) : Int) = 30 + (h : Int) by omega] at q
            rw [q]
            (try dsimp only)
            rw [if_neg (by omega), show (30 : Int) + h - 30 = h by omega]
            exact hH h hh
          refine R_s (P := True) (f' := (69, [some (vR 1), some (vI n), some (vI x)], [vI (F 2 + n)], LAY (u (u (u (u (u (u (u (u (u (u (shA A) 8 m8) 9 m9) 10 m10) 11 m11) 75 m75) 76 m76) 77 m77) 78 m78) 84 m84) 85 m85) (u (u (u (shF F) 2 (F 2 + n)) 14 w14) 15 w15), 0, 0)) hc81 2 rfl trivial ?_
          refine R_reti hc81 rfl rfl ?_
          first
            | (exfalso; omega; done)
            | exact ⟨F 2 + n, (u (u (u (u (u (u (u (u (u (u (u A 8 m8) 9 m9) 10 m10) 11 m11) 75 m75) 76 m76) 77 m77) 78 m78) 84 m84) 85 m85) 101 l101), (u (u (u F 2 (F 2 + n)) 14 w14) 15 w15), ⟨(LENS_u (LENS_u (LENS_u (LENS_u (LENS_u (LENS_u (LENS_u (LENS_u (LENS_u (LENS_u (LENS_u hL (by show (m8).length = (A 8).length; rw [km8, hL 8 (by decide)]; rfl)) (by show (m9).length = (A 9).length; rw [km9, hL 9 (by decide)]; rfl)) (by show (m10).length = (A 10).length; rw [km10, hL 10 (by decide)]; rfl)) (by show (m11).length = (A 11).length; rw [km11, hL 11 (by decide)]; rfl)) (by show (m75).length = (A 75).length; rw [km75, hL 75 (by decide)]; rfl)) (by show (m76).length = (A 76).length; rw [km76, hL 76 (by decide)]; rfl)) (by show (m77).length = (A 77).length; rw [km77, hL 77 (by decide)]; rfl)) (by show (m78).length = (A 78).length; rw [km78, hL 78 (by decide)]; rfl)) (by show (m84).length = (A 84).length; rw [km84, hL 84 (by decide)]; rfl)) (by show (m85).length = (A 85).length; rw [km85, hL 85 (by decide)]; rfl)) (by show (l101).length = (A 101).length; rw [kl101, hL 101 (by decide)]; rfl)), hR0.2.1, hR0.2.2.1, hR0.2.2.2.1, hR0.2.2.2.2.1, hR0.2.2.2.2.2.1, ⟨(show 0 ≤ F 2 + n by omega), (show F 2 + n ≤ 600 by omega)⟩, (ACCT_run hR0 (by omega) (by omega) hP hH hP2 hH2), hR0.2.2.2.2.2.2.2.2.1, (REFU_c hR0.2.2.2.2.2.2.2.2.2)⟩, rfl, rfl, rfl, ⟨fun _ _ => ⟨rfl, rfl, rfl, rfl, rfl, rfl, rfl, rfl, rfl, rfl, hP, hH⟩, fun q => ⟨by omega, rfl⟩, fun q => by omega⟩⟩
        · refine R_s (P := True) (f' := (44, [some (vR 1), some (vI n), none], [vI (-8), vR 1], LAY (shA A) (shF F), 0, 0)) hc81 2 rfl trivial ?_
          refine R_cv hc81 rfl rfl ?_ (fun r G h => h)
          refine R_s (P := True) (f' := (3, [some (vR 1), some (vI (-8))], [vI (-2), vI (-8)], LAY (shA A) (shF F), 0, 0)) hc93 2 rfl trivial ?_
          refine R_ic (t := 23) hc93 rfl rfl (fun (z : (-2) < (-8)) => absurd z (by decide)) (fun (_ : ¬ ((-2) < (-8))) => ?_)
          refine R_s (P := True) (f' := (9, [some (vR 1), some (vI (-8))], [vI (-8), vI (-8)], LAY (shA A) (shF F), 0, 0)) hc93 2 rfl trivial ?_
          refine R_ic (t := 23) hc93 rfl rfl (fun (z : (-8) < (-8)) => absurd z (by decide)) (fun (_ : ¬ ((-8) < (-8))) => ?_)
          refine R_s (P := inI 8 ∧ (0 ≤ 8 ∧ 8 < ((A 87).length : Int)) ∧ inI ((rd (A 87) 8) + 1) ∧ (0 ≤ 8 ∧ 8 < ((A 87).length : Int)) ∧ True) (f' := (24, [some (vR 1), some (vI (-8))], [vI (-8)], LAY (u (shA A) 87 (wr (A 87) 8 ((rd (A 87) 8) + 1))) (shF F), 0, 0)) hc93 10 rfl ⟨⟨by omega, by omega⟩, ⟨by omega, by omega⟩, ⟨by omega, by omega⟩, ⟨by omega, by omega⟩, trivial⟩ ?_
          refine R_reti hc93 rfl rfl ?_
          refine R_s (f' := (47, [some (vR 1), some (vI n), none], [vI (-8)], LAY (u (shA A) 87 (wr (A 87) 8 ((rd (A 87) 8) + 1))) (shF F), 0, 0)) hc81 0 rfl trivial ?_
          refine R_reti hc81 rfl rfl ?_
          first
            | (exfalso; omega; done)
            | exact ⟨(-8), (u A 87 (wr (A 87) 8 ((rd (A 87) 8) + 1))), F, REL_ref hR0 (by decide) (by decide), rfl, rfl, rfl, ⟨fun q1 q2 => by exfalso; omega, fun q => ⟨by omega, rfl⟩, fun q => by omega⟩⟩
      · refine R_s (P := True) (f' := (25, [some (vR 1), some (vI n), none], [vI (-7), vR 1], LAY (shA A) (shF F), 0, 0)) hc81 2 rfl trivial ?_
        refine R_cv hc81 rfl rfl ?_ (fun r G h => h)
        refine R_s (P := True) (f' := (3, [some (vR 1), some (vI (-7))], [vI (-2), vI (-7)], LAY (shA A) (shF F), 0, 0)) hc93 2 rfl trivial ?_
        refine R_ic (t := 23) hc93 rfl rfl (fun (z : (-2) < (-7)) => absurd z (by decide)) (fun (_ : ¬ ((-2) < (-7))) => ?_)
        refine R_s (P := True) (f' := (9, [some (vR 1), some (vI (-7))], [vI (-8), vI (-7)], LAY (shA A) (shF F), 0, 0)) hc93 2 rfl trivial ?_
        refine R_ic (t := 23) hc93 rfl rfl (fun (z : (-7) < (-8)) => absurd z (by decide)) (fun (_ : ¬ ((-7) < (-8))) => ?_)
        refine R_s (P := inI 7 ∧ (0 ≤ 7 ∧ 7 < ((A 87).length : Int)) ∧ inI ((rd (A 87) 7) + 1) ∧ (0 ≤ 7 ∧ 7 < ((A 87).length : Int)) ∧ True) (f' := (24, [some (vR 1), some (vI (-7))], [vI (-7)], LAY (u (shA A) 87 (wr (A 87) 7 ((rd (A 87) 7) + 1))) (shF F), 0, 0)) hc93 10 rfl ⟨⟨by omega, by omega⟩, ⟨by omega, by omega⟩, ⟨by omega, by omega⟩, ⟨by omega, by omega⟩, trivial⟩ ?_
        refine R_reti hc93 rfl rfl ?_
        refine R_s (f' := (28, [some (vR 1), some (vI n), none], [vI (-7)], LAY (u (shA A) 87 (wr (A 87) 7 ((rd (A 87) 7) + 1))) (shF F), 0, 0)) hc81 0 rfl trivial ?_
        refine R_reti hc81 rfl rfl ?_
        first
          | (exfalso; omega; done)
          | exact ⟨(-7), (u A 87 (wr (A 87) 7 ((rd (A 87) 7) + 1))), F, REL_ref hR0 (by decide) (by decide), rfl, rfl, rfl, ⟨fun q1 q2 => by exfalso; omega, fun q => ⟨by omega, rfl⟩, fun q => by omega⟩⟩
  · refine R_s (P := True) (f' := (7, [some (vR 1), some (vI n), none], [vI (-4), vR 1], LAY (shA A) (shF F), 0, 0)) hc81 2 rfl trivial ?_
    refine R_cv hc81 rfl rfl ?_ (fun r G h => h)
    refine R_s (P := True) (f' := (3, [some (vR 1), some (vI (-4))], [vI (-2), vI (-4)], LAY (shA A) (shF F), 0, 0)) hc93 2 rfl trivial ?_
    refine R_ic (t := 23) hc93 rfl rfl (fun (z : (-2) < (-4)) => absurd z (by decide)) (fun (_ : ¬ ((-2) < (-4))) => ?_)
    refine R_s (P := True) (f' := (9, [some (vR 1), some (vI (-4))], [vI (-8), vI (-4)], LAY (shA A) (shF F), 0, 0)) hc93 2 rfl trivial ?_
    refine R_ic (t := 23) hc93 rfl rfl (fun (z : (-4) < (-8)) => absurd z (by decide)) (fun (_ : ¬ ((-4) < (-8))) => ?_)
    refine R_s (P := inI 4 ∧ (0 ≤ 4 ∧ 4 < ((A 87).length : Int)) ∧ inI ((rd (A 87) 4) + 1) ∧ (0 ≤ 4 ∧ 4 < ((A 87).length : Int)) ∧ True) (f' := (24, [some (vR 1), some (vI (-4))], [vI (-4)], LAY (u (shA A) 87 (wr (A 87) 4 ((rd (A 87) 4) + 1))) (shF F), 0, 0)) hc93 10 rfl ⟨⟨by omega, by omega⟩, ⟨by omega, by omega⟩, ⟨by omega, by omega⟩, ⟨by omega, by omega⟩, trivial⟩ ?_
    refine R_reti hc93 rfl rfl ?_
    refine R_s (f' := (10, [some (vR 1), some (vI n), none], [vI (-4)], LAY (u (shA A) 87 (wr (A 87) 4 ((rd (A 87) 4) + 1))) (shF F), 0, 0)) hc81 0 rfl trivial ?_
    refine R_reti hc81 rfl rfl ?_
    first
      | (exfalso; omega; done)
      | exact ⟨(-4), (u A 87 (wr (A 87) 4 ((rd (A 87) 4) + 1))), F, REL_ref hR0 (by decide) (by decide), rfl, rfl, rfl, ⟨fun q1 q2 => by exfalso; omega, fun q => ⟨by omega, rfl⟩, fun q => by omega⟩⟩

