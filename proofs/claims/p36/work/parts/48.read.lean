theorem l_rend0 {A : Nat → List Int} {F : Nat → Int} (hL : LENS A) (h5 : 0 ≤ F 5 ∧ F 5 ≤ 120) (h6 : 0 ≤ F 6 ∧ F 6 ≤ F 5) {x : Int} {i : Nat} (ex : x = (i : Int)) (hi : i < 6) : R 39 (0, L0 39 [vR 17, vR 20, vI x], [], LAY A F, 0, 0) (fun r G => ∃ (c : Int) (q0 q1 q2 q3 q4 q5 q6 q7 : List Int) (a v : Int), r = some (vI c) ∧ G = LAY (u (u (u (u (u (u (u (u A 21 q0) 22 q1) 23 q2) 24 q3) 25 q4) 26 q5) 27 q6) 28 q7) (u (u F 6 a) 7 v) ∧ q0.length = 6 ∧ q1.length = 6 ∧ q2.length = 6 ∧ q3.length = 6 ∧ q4.length = 6 ∧ q5.length = 6 ∧ q6.length = 6 ∧ q7.length = 6 ∧ (c = 0 ∨ c = 1) ∧ 0 ≤ a ∧ a ≤ F 5 ∧ (∀ q : Nat, q ≠ i → rd q0 q = rd (A 21) q) ∧ (∀ q : Nat, q ≠ i → rd q1 q = rd (A 22) q) ∧ (∀ q : Nat, q ≠ i → rd q2 q = rd (A 23) q) ∧ (∀ q : Nat, q ≠ i → rd q3 q = rd (A 24) q) ∧ (∀ q : Nat, q ≠ i → rd q4 q = rd (A 25) q) ∧ (∀ q : Nat, q ≠ i → rd q5 q = rd (A 26) q) ∧ (∀ q : Nat, q ≠ i → rd q6 q = rd (A 27) q) ∧ (∀ q : Nat, q ≠ i → rd q7 q = rd (A 28) q) ∧ eN (A 18) (F 5) i (0, F 6) = (1 - c, a) ∧ (c = 1 → eV (A 18) (F 5) i (0, F 6) (rd q0 i) (rd q1 i) (rd q2 i) (rd q3 i) (rd q4 i) (rd q5 i) (rd q6 i) (rd q7 i))) := by
  have d0 : (A 21).length = 6 := hL 21 (by decide)
  have d1 : (A 22).length = 6 := hL 22 (by decide)
  have d2 : (A 23).length = 6 := hL 23 (by decide)
  have d3 : (A 24).length = 6 := hL 24 (by decide)
  have d4 : (A 25).length = 6 := hL 25 (by decide)
  have d5 : (A 26).length = 6 := hL 26 (by decide)
  have d6 : (A 27).length = 6 := hL 27 (by decide)
  have d7 : (A 28).length = 6 := hL 28 (by decide)
  have g1 : rd (wr (A 25) x 1) x = 1 := rd_wr_s (by omega) (by omega)
  have g0 : rd (wr (A 25) x 0) x = 0 := rd_wr_s (by omega) (by omega)
  refine R_s (P := True) (f' := (0, [some (vR 17), some (vR 20), some (vI x), none, none], [], LAY (u (u (u (u (u (u (u (u A 21 (A 21)) 22 (A 22)) 23 (A 23)) 24 (A 24)) 25 (A 25)) 26 (A 26)) 27 (A 27)) 28 (A 28)) (u (u F 6 (F 6)) 7 (F 7)), 0, 0)) hc39 0 rfl trivial ?_
  refine R_s (P := (0 ≤ x ∧ x < ((A 26).length : Int)) ∧ inI (x + 1) ∧ True) (f' := (12, [some (vR 17), some (vR 20), some (vI x), none, none], [vI 6, vI (x + 1)], LAY (u (u (u (u (u (u (u (u A 21 (A 21)) 22 (A 22)) 23 (A 23)) 24 (A 24)) 25 (A 25)) 27 (A 27)) 28 (A 28)) 26 (wr (A 26) x 0)) (u (u F 6 (F 6)) 7 (F 7)), 0, 0)) hc39 9 rfl ⟨⟨by omega, by omega⟩, ⟨by omega, by omega⟩, trivial⟩ ?_
  refine R_ic (t := 19) hc39 rfl rfl (fun (c1 : ¬ x + 1 = 6) => ?_) (fun (c1 : ¬ (¬ x + 1 = 6)) => ?_)
  · refine R_s (P := True) (f' := (22, [some (vR 17), some (vR 20), some (vI x), some (vI 0), none], [vR 17], LAY (u (u (u (u (u (u (u (u A 21 (A 21)) 22 (A 22)) 23 (A 23)) 24 (A 24)) 25 (A 25)) 27 (A 27)) 28 (A 28)) 26 (wr (A 26) x 0)) (u (u F 6 (F 6)) 7 (F 7)), 0, 0)) hc39 3 rfl trivial ?_
    refine R_cv hc39 rfl rfl (l_next (A := (u (u (u (u (u (u (u (u A 21 (A 21)) 22 (A 22)) 23 (A 23)) 24 (A 24)) 25 (A 25)) 27 (A 27)) 28 (A 28)) 26 (wr (A 26) x 0))) (F := (u (u F 6 (F 6)) 7 (F 7))) (LENS_u (LENS_u (LENS_u (LENS_u (LENS_u (LENS_u (LENS_u (LENS_u hL (by show (A 21).length = (A 21).length; omega)) (by show (A 22).length = (A 22).length; omega)) (by show (A 23).length = (A 23).length; omega)) (by show (A 24).length = (A 24).length; omega)) (by show (A 25).length = (A 25).length; omega)) (by show (A 27).length = (A 27).length; omega)) (by show (A 28).length = (A 28).length; omega)) (by show (wr (A 26) x 0).length = (A 26).length; simp only [wr_len])) h5 ⟨by (show 0 ≤ F 6); omega, by (show F 6 ≤ F 5); omega⟩) (fun r G9 hp9 => ?_)
    obtain ⟨e1, rfl⟩ := hp9
    have e2 : r = some (vI (nx (A 18) (F 5) (F 6))) := e1
    clear e1
    subst e2
    refine R_s (f' := (25, [some (vR 17), some (vR 20), some (vI x), some (vI 0), none], [vI (nx (A 18) (F 5) (F 6))], LAY (u (u (u (u (u (u (u (u A 21 (A 21)) 22 (A 22)) 23 (A 23)) 24 (A 24)) 25 (A 25)) 27 (A 27)) 28 (A 28)) 26 (wr (A 26) x 0)) (u (u F 6 (F 6)) 7 (F 7)), 0, 0)) hc39 0 rfl trivial ?_
    refine R_s (P := True) (f' := (31, [some (vR 17), some (vR 20), some (vI x), some (vI 0), some (vI (nx (A 18) (F 5) (F 6)))], [vI 102, vI (nx (A 18) (F 5) (F 6))], LAY (u (u (u (u (u (u (u (u A 21 (A 21)) 22 (A 22)) 23 (A 23)) 24 (A 24)) 25 (A 25)) 27 (A 27)) 28 (A 28)) 26 (wr (A 26) x 0)) (u (u F 6 (F 6)) 7 (F 7)), 0, 0)) hc39 3 rfl trivial ?_
    refine R_ic (t := 62) hc39 rfl rfl (fun (c2 : ¬ nx (A 18) (F 5) (F 6) = 102) => ?_) (fun (c2 : ¬ (¬ nx (A 18) (F 5) (F 6) = 102)) => ?_)
    · refine R_s (P := True) (f' := (66, [some (vR 17), some (vR 20), some (vI x), some (vI 0), some (vI (nx (A 18) (F 5) (F 6)))], [vI 108, vI (nx (A 18) (F 5) (F 6))], LAY (u (u (u (u (u (u (u (u A 21 (A 21)) 22 (A 22)) 23 (A 23)) 24 (A 24)) 25 (A 25)) 27 (A 27)) 28 (A 28)) 26 (wr (A 26) x 0)) (u (u F 6 (F 6)) 7 (F 7)), 0, 0)) hc39 2 rfl trivial ?_
      refine R_ic (t := 97) hc39 rfl rfl (fun (c3 : ¬ nx (A 18) (F 5) (F 6) = 108) => ?_) (fun (c3 : ¬ (¬ nx (A 18) (F 5) (F 6) = 108)) => ?_)
      · refine R_s (P := True) (f' := (101, [some (vR 17), some (vR 20), some (vI x), some (vI 0), some (vI (nx (A 18) (F 5) (F 6)))], [vI 109, vI (nx (A 18) (F 5) (F 6))], LAY (u (u (u (u (u (u (u (u A 21 (A 21)) 22 (A 22)) 23 (A 23)) 24 (A 24)) 25 (A 25)) 27 (A 27)) 28 (A 28)) 26 (wr (A 26) x 0)) (u (u F 6 (F 6)) 7 (F 7)), 0, 0)) hc39 2 rfl trivial ?_
        refine R_ic (t := 132) hc39 rfl rfl (fun (c4 : ¬ nx (A 18) (F 5) (F 6) = 109) => ?_) (fun (c4 : ¬ (¬ nx (A 18) (F 5) (F 6) = 109)) => ?_)
        · refine R_s (P := True) (f' := (135, [some (vR 17), some (vR 20), some (vI x), some (vI 0), some (vI (nx (A 18) (F 5) (F 6)))], [vI x, vR 20, vR 17], LAY (u (u (u (u (u (u (u (u A 21 (A 21)) 22 (A 22)) 23 (A 23)) 24 (A 24)) 25 (A 25)) 27 (A 27)) 28 (A 28)) 26 (wr (A 26) x 0)) (u (u F 6 (F 6)) 7 (F 7)), 0, 0)) hc39 3 rfl trivial ?_
          refine R_cv hc39 rfl rfl (l_rrest0 (A := (u (u (u (u (u (u (u (u A 21 (A 21)) 22 (A 22)) 23 (A 23)) 24 (A 24)) 25 (A 25)) 27 (A 27)) 28 (A 28)) 26 (wr (A 26) x 0))) (F := (u (u F 6 (F 6)) 7 (F 7))) (LENS_u (LENS_u (LENS_u (LENS_u (LENS_u (LENS_u (LENS_u (LENS_u hL (by show (A 21).length = (A 21).length; omega)) (by show (A 22).length = (A 22).length; omega)) (by show (A 23).length = (A 23).length; omega)) (by show (A 24).length = (A 24).length; omega)) (by show (A 25).length = (A 25).length; omega)) (by show (A 27).length = (A 27).length; omega)) (by show (A 28).length = (A 28).length; omega)) (by show (wr (A 26) x 0).length = (A 26).length; simp only [wr_len])) h5 ⟨by (show 0 ≤ F 6); omega, by (show F 6 ≤ F 5); omega⟩ ex hi) (fun r G9 hp9 => ?_)
          obtain ⟨b1, g0_1, g3_1, a1, v1, rfl, rfl, l1_0, l1_3, hb1, p1, q1, kp1_0, kp1_3, hw1, r1, hv1⟩ := hp9
          have q1 : a1 ≤ F 5 := q1
          have kp1_0 : ∀ q : Nat, q ≠ i → rd g0_1 q = rd (A 21) q := kp1_0
          have kp1_3 : ∀ q : Nat, q ≠ i → rd g3_1 q = rd (A 24) q := kp1_3
          refine R_s (f' := (138, [some (vR 17), some (vR 20), some (vI x), some (vI 0), some (vI (nx (A 18) (F 5) (F 6)))], [vI b1], LAY (u (u (u (u (u (u (u (u A 22 (A 22)) 23 (A 23)) 25 (A 25)) 27 (A 27)) 28 (A 28)) 26 (wr (A 26) x 0)) 21 g0_1) 24 g3_1) (u (u F 6 a1) 7 v1), 0, 0)) hc39 0 rfl trivial ?_
          refine R_retz hc39 rfl rfl (by omega) ⟨b1, g0_1, A 22, A 23, g3_1, A 25, wr (A 26) x 0, A 27, A 28, a1, v1, rfl, rfl, (by (try simp only [wr_len]); omega), (by (try simp only [wr_len]); omega), (by (try simp only [wr_len]); omega), (by (try simp only [wr_len]); omega), (by (try simp only [wr_len]); omega), (by (try simp only [wr_len]); omega), (by (try simp only [wr_len]); omega), (by (try simp only [wr_len]); omega), hb1, by omega, by omega, fun q hq => by rw [kp1_0 q hq], fun _ _ => rfl, fun _ _ => rfl, fun q hq => by rw [kp1_3 q hq], fun _ _ => rfl, fun q hq => by rw [rd_wr_n (by omega) (by omega) (by omega)], fun _ _ => rfl, fun _ _ => rfl, ?_⟩
          have hk : eK (A 18) (F 5) i (0, F 6) = 3 := by
            unfold eK
            (try dsimp only)
            rw [if_neg (fun z => by omega)]
            rw [if_neg (fun z => by omega)]
            rw [if_neg (fun z => by omega)]
          have eS : eN (A 18) (F 5) i (0, F 6) = (1 - b1, a1) := by rw [eN_3 hk]; exact hw1
          have r0 : rd (g0_1) i = 3 := r1
          have z5 : rd (wr (A 26) x 0) i = 0 := by rw [← ex]; exact rd_wr_s (by omega) (by omega)
          exact ⟨eS, fun y => ⟨by rw [r0, hk], fun z => absurd z (by rw [r0]; decide), fun z => absurd z (by rw [r0]; decide), fun z => absurd z (by rw [r0]; decide), fun _ => ⟨hv1 y, z5⟩, fun z => absurd r0 z⟩⟩
        · refine R_s (P := True) (f' := (105, [some (vR 17), some (vR 20), some (vI x), some (vI 0), some (vI (nx (A 18) (F 5) (F 6)))], [vI x], LAY (u (u (u (u (u (u (u (u A 21 (A 21)) 22 (A 22)) 23 (A 23)) 24 (A 24)) 25 (A 25)) 27 (A 27)) 28 (A 28)) 26 (wr (A 26) x 0)) (u (u F 6 (F 6)) 7 (F 7)), 0, 0)) hc39 1 rfl trivial ?_
          refine R_if (t := 132) hc39 rfl rfl (fun (c5 : ¬ x = 0) => ?_) (fun (c5 : ¬ (¬ x = 0)) => ?_)
          · refine R_s (P := True) (f' := (135, [some (vR 17), some (vR 20), some (vI x), some (vI 0), some (vI (nx (A 18) (F 5) (F 6)))], [vI x, vR 20, vR 17], LAY (u (u (u (u (u (u (u (u A 21 (A 21)) 22 (A 22)) 23 (A 23)) 24 (A 24)) 25 (A 25)) 27 (A 27)) 28 (A 28)) 26 (wr (A 26) x 0)) (u (u F 6 (F 6)) 7 (F 7)), 0, 0)) hc39 3 rfl trivial ?_
            refine R_cv hc39 rfl rfl (l_rrest0 (A := (u (u (u (u (u (u (u (u A 21 (A 21)) 22 (A 22)) 23 (A 23)) 24 (A 24)) 25 (A 25)) 27 (A 27)) 28 (A 28)) 26 (wr (A 26) x 0))) (F := (u (u F 6 (F 6)) 7 (F 7))) (LENS_u (LENS_u (LENS_u (LENS_u (LENS_u (LENS_u (LENS_u (LENS_u hL (by show (A 21).length = (A 21).length; omega)) (by show (A 22).length = (A 22).length; omega)) (by show (A 23).length = (A 23).length; omega)) (by show (A 24).length = (A 24).length; omega)) (by show (A 25).length = (A 25).length; omega)) (by show (A 27).length = (A 27).length; omega)) (by show (A 28).length = (A 28).length; omega)) (by show (wr (A 26) x 0).length = (A 26).length; simp only [wr_len])) h5 ⟨by (show 0 ≤ F 6); omega, by (show F 6 ≤ F 5); omega⟩ ex hi) (fun r G9 hp9 => ?_)
            obtain ⟨b2, g0_2, g3_2, a2, v2, rfl, rfl, l2_0, l2_3, hb2, p2, q2, kp2_0, kp2_3, hw2, r2, hv2⟩ := hp9
            have q2 : a2 ≤ F 5 := q2
            have kp2_0 : ∀ q : Nat, q ≠ i → rd g0_2 q = rd (A 21) q := kp2_0
            have kp2_3 : ∀ q : Nat, q ≠ i → rd g3_2 q = rd (A 24) q := kp2_3
            refine R_s (f' := (138, [some (vR 17), some (vR 20), some (vI x), some (vI 0), some (vI (nx (A 18) (F 5) (F 6)))], [vI b2], LAY (u (u (u (u (u (u (u (u A 22 (A 22)) 23 (A 23)) 25 (A 25)) 27 (A 27)) 28 (A 28)) 26 (wr (A 26) x 0)) 21 g0_2) 24 g3_2) (u (u F 6 a2) 7 v2), 0, 0)) hc39 0 rfl trivial ?_
            refine R_retz hc39 rfl rfl (by omega) ⟨b2, g0_2, A 22, A 23, g3_2, A 25, wr (A 26) x 0, A 27, A 28, a2, v2, rfl, rfl, (by (try simp only [wr_len]); omega), (by (try simp only [wr_len]); omega), (by (try simp only [wr_len]); omega), (by (try simp only [wr_len]); omega), (by (try simp only [wr_len]); omega), (by (try simp only [wr_len]); omega), (by (try simp only [wr_len]); omega), (by (try simp only [wr_len]); omega), hb2, by omega, by omega, fun q hq => by rw [kp2_0 q hq], fun _ _ => rfl, fun _ _ => rfl, fun q hq => by rw [kp2_3 q hq], fun _ _ => rfl, fun q hq => by rw [rd_wr_n (by omega) (by omega) (by omega)], fun _ _ => rfl, fun _ _ => rfl, ?_⟩
            have hk : eK (A 18) (F 5) i (0, F 6) = 3 := by
              unfold eK
              (try dsimp only)
              rw [if_neg (fun z => by omega)]
              rw [if_neg (fun z => by omega)]
              rw [if_neg (fun z => by omega)]
            have eS : eN (A 18) (F 5) i (0, F 6) = (1 - b2, a2) := by rw [eN_3 hk]; exact hw2
            have r0 : rd (g0_2) i = 3 := r2
            have z5 : rd (wr (A 26) x 0) i = 0 := by rw [← ex]; exact rd_wr_s (by omega) (by omega)
            exact ⟨eS, fun y => ⟨by rw [r0, hk], fun z => absurd z (by rw [r0]; decide), fun z => absurd z (by rw [r0]; decide), fun z => absurd z (by rw [r0]; decide), fun _ => ⟨hv2 y, z5⟩, fun z => absurd r0 z⟩⟩
          · refine R_s (P := True) (f' := (111, [some (vR 17), some (vR 20), some (vI x), some (vI 0), some (vI (nx (A 18) (F 5) (F 6)))], [vI x, vR 20, vR 17], LAY (u (u (u (u (u (u (u (u A 21 (A 21)) 22 (A 22)) 23 (A 23)) 24 (A 24)) 25 (A 25)) 27 (A 27)) 28 (A 28)) 26 (wr (A 26) x 0)) (u (u F 6 (F 6)) 7 (F 7)), 0, 0)) hc39 3 rfl trivial ?_
            refine R_cv hc39 rfl rfl ?_ (fun r G h => h)
            refine R_s (P := (0 ≤ x ∧ x < ((A 21).length : Int)) ∧ True) (f' := (10, [some (vR 17), some (vR 20), some (vI x)], [vS 11, vR 17], LAY (u (u (u (u (u (u (u (u A 22 (A 22)) 23 (A 23)) 24 (A 24)) 25 (A 25)) 27 (A 27)) 28 (A 28)) 26 (wr (A 26) x 0)) 21 (wr (A 21) x 2)) (u (u F 6 (F 6)) 7 (F 7)), 0, 0)) hc42 7 rfl ⟨⟨by omega, by omega⟩, trivial⟩ ?_
            refine R_cv hc42 rfl rfl (l_word11 (A := (u (u (u (u (u (u (u (u A 22 (A 22)) 23 (A 23)) 24 (A 24)) 25 (A 25)) 27 (A 27)) 28 (A 28)) 26 (wr (A 26) x 0)) 21 (wr (A 21) x 2))) (F := (u (u F 6 (F 6)) 7 (F 7))) (LENS_u (LENS_u (LENS_u (LENS_u (LENS_u (LENS_u (LENS_u (LENS_u hL (by show (A 22).length = (A 22).length; omega)) (by show (A 23).length = (A 23).length; omega)) (by show (A 24).length = (A 24).length; omega)) (by show (A 25).length = (A 25).length; omega)) (by show (A 27).length = (A 27).length; omega)) (by show (A 28).length = (A 28).length; omega)) (by show (wr (A 26) x 0).length = (A 26).length; simp only [wr_len])) (by show (wr (A 21) x 2).length = (A 21).length; simp only [wr_len])) h5 ⟨by (show 0 ≤ F 6); omega, by (show F 6 ≤ F 5); omega⟩) (fun r G9 hp9 => ?_)
            obtain ⟨b3, a3, rfl, rfl, hb3, hw3, p3, q3⟩ := hp9
            have p3 : 0 ≤ a3 := p3
            have q3 : a3 ≤ F 5 := q3
            refine R_s (f' := (13, [some (vR 17), some (vR 20), some (vI x)], [vI b3], LAY (u (u (u (u (u (u (u (u A 22 (A 22)) 23 (A 23)) 24 (A 24)) 25 (A 25)) 27 (A 27)) 28 (A 28)) 26 (wr (A 26) x 0)) 21 (wr (A 21) x 2)) (u (u F 7 (F 7)) 6 a3), 0, 0)) hc42 0 rfl trivial ?_
            refine R_if (t := 24) hc42 rfl rfl (fun (c6 : b3 = 0) => ?_) (fun (c6 : ¬ (b3 = 0)) => ?_)
            · refine R_s (P := True) (f' := (25, [some (vR 17), some (vR 20), some (vI x)], [vI 0], LAY (u (u (u (u (u (u (u (u A 22 (A 22)) 23 (A 23)) 24 (A 24)) 25 (A 25)) 27 (A 27)) 28 (A 28)) 26 (wr (A 26) x 0)) 21 (wr (A 21) x 2)) (u (u F 7 (F 7)) 6 a3), 0, 0)) hc42 1 rfl trivial ?_
              refine R_retz hc42 rfl rfl (Or.inl rfl) ?_
              refine R_s (f' := (114, [some (vR 17), some (vR 20), some (vI x), some (vI 0), some (vI (nx (A 18) (F 5) (F 6)))], [vI 0], LAY (u (u (u (u (u (u (u (u A 22 (A 22)) 23 (A 23)) 24 (A 24)) 25 (A 25)) 27 (A 27)) 28 (A 28)) 26 (wr (A 26) x 0)) 21 (wr (A 21) x 2)) (u (u F 7 (F 7)) 6 a3), 0, 0)) hc39 0 rfl trivial ?_
              refine R_if (t := 130) hc39 rfl rfl (fun (_ : 0 = 0) => ?_) (fun (z : ¬ (0 = 0)) => absurd (by decide) z)
              refine R_s (P := True) (f' := (131, [some (vR 17), some (vR 20), some (vI x), some (vI 0), some (vI (nx (A 18) (F 5) (F 6)))], [vI 0], LAY (u (u (u (u (u (u (u (u A 22 (A 22)) 23 (A 23)) 24 (A 24)) 25 (A 25)) 27 (A 27)) 28 (A 28)) 26 (wr (A 26) x 0)) 21 (wr (A 21) x 2)) (u (u F 7 (F 7)) 6 a3), 0, 0)) hc39 1 rfl trivial ?_
              refine R_retz hc39 rfl rfl (Or.inl rfl) ⟨0, wr (A 21) x 2, A 22, A 23, A 24, A 25, wr (A 26) x 0, A 27, A 28, a3, F 7, rfl, rfl, (by (try simp only [wr_len]); omega), (by (try simp only [wr_len]); omega), (by (try simp only [wr_len]); omega), (by (try simp only [wr_len]); omega), (by (try simp only [wr_len]); omega), (by (try simp only [wr_len]); omega), (by (try simp only [wr_len]); omega), (by (try simp only [wr_len]); omega), by decide, by omega, by omega, fun q hq => by rw [rd_wr_n (by omega) (by omega) (by omega)], fun _ _ => rfl, fun _ _ => rfl, fun _ _ => rfl, fun _ _ => rfl, fun q hq => by rw [rd_wr_n (by omega) (by omega) (by omega)], fun _ _ => rfl, fun _ _ => rfl, ?_⟩
              have ehw3 : b3 = 0 := by omega
              rw [ehw3] at hw3
              have hw3n : wD (A 18) (F 5) MAN (0, F 6) = (1, a3) := hw3
              have hk : eK (A 18) (F 5) i (0, F 6) = 2 := by
                unfold eK
                (try dsimp only)
                rw [if_neg (fun z => by omega)]
                rw [if_neg (fun z => by omega)]
                rw [if_pos ⟨by omega, by omega⟩]
              have eP : pN (A 18) (F 5) MAN (0, F 6) = ((1, a3), 0) := by unfold pN; rw [hw3n, dG_f]
              have eR : pR (A 18) (F 5) MAN (0, F 6) = ((1, a3), 0) := by
                unfold pR
                rw [eP]
                (try dsimp only)
                rw [wD_f]
                rw [dG_f]
              have eT : tB (A 18) (F 5) i (0, F 6) = (1, a3) := by rw [(eN_2 hk).2, eR]
              have eS : eN (A 18) (F 5) i (0, F 6) = (1, a3) := by rw [(eN_2 hk).1, eT, tS_f]
              exact ⟨eS, fun z => absurd z (by decide)⟩
            · refine R_s (P := True) (f' := (18, [some (vR 17), some (vR 20), some (vI x)], [vI 4, vR 17], LAY (u (u (u (u (u (u (u (u A 22 (A 22)) 23 (A 23)) 24 (A 24)) 25 (A 25)) 27 (A 27)) 28 (A 28)) 26 (wr (A 26) x 0)) 21 (wr (A 21) x 2)) (u (u F 7 (F 7)) 6 a3), 0, 0)) hc42 2 rfl trivial ?_
              refine R_cv hc42 rfl rfl (l_numb (A := (u (u (u (u (u (u (u (u A 22 (A 22)) 23 (A 23)) 24 (A 24)) 25 (A 25)) 27 (A 27)) 28 (A 28)) 26 (wr (A 26) x 0)) 21 (wr (A 21) x 2))) (F := (u (u F 7 (F 7)) 6 a3)) (LENS_u (LENS_u (LENS_u (LENS_u (LENS_u (LENS_u (LENS_u (LENS_u hL (by show (A 22).length = (A 22).length; omega)) (by show (A 23).length = (A 23).length; omega)) (by show (A 24).length = (A 24).length; omega)) (by show (A 25).length = (A 25).length; omega)) (by show (A 27).length = (A 27).length; omega)) (by show (A 28).length = (A 28).length; omega)) (by show (wr (A 26) x 0).length = (A 26).length; simp only [wr_len])) (by show (wr (A 21) x 2).length = (A 21).length; simp only [wr_len])) h5 ⟨by (show 0 ≤ a3); omega, by (show a3 ≤ F 5); omega⟩ (kk := 4) (by decide) rfl) (fun r G9 hp9 => ?_)
              obtain ⟨b4, a4, v4, rfl, rfl, hb4, hw4, p4, q4, w4⟩ := hp9
              have p4 : 0 ≤ a4 := p4
              have q4 : a4 ≤ F 5 := q4
              refine R_s (f' := (21, [some (vR 17), some (vR 20), some (vI x)], [vI b4], LAY (u (u (u (u (u (u (u (u A 22 (A 22)) 23 (A 23)) 24 (A 24)) 25 (A 25)) 27 (A 27)) 28 (A 28)) 26 (wr (A 26) x 0)) 21 (wr (A 21) x 2)) (u (u F 6 a4) 7 v4), 0, 0)) hc42 0 rfl trivial ?_
              refine R_if (t := 26) hc42 rfl rfl (fun (c7 : ¬ b4 = 0) => ?_) (fun (c7 : ¬ (¬ b4 = 0)) => ?_)
              · refine R_s (P := (0 ≤ x ∧ x < ((A 22).length : Int)) ∧ True) (f' := (39, [some (vR 17), some (vR 20), some (vI x)], [vI x, vR 20, vR 17], LAY (u (u (u (u (u (u (u (u A 23 (A 23)) 24 (A 24)) 25 (A 25)) 27 (A 27)) 28 (A 28)) 26 (wr (A 26) x 0)) 21 (wr (A 21) x 2)) 22 (wr (A 22) x v4)) (u (u F 6 a4) 7 v4), 0, 0)) hc42 9 rfl ⟨⟨by omega, by omega⟩, trivial⟩ ?_
                refine R_cv hc42 rfl rfl ?_ (fun r G h => h)
                refine R_s (P := True) (f' := (3, [some (vR 17), some (vR 20), some (vI x)], [vS 8, vR 17], LAY (u (u (u (u (u (u (u (u A 23 (A 23)) 24 (A 24)) 25 (A 25)) 27 (A 27)) 28 (A 28)) 26 (wr (A 26) x 0)) 21 (wr (A 21) x 2)) 22 (wr (A 22) x v4)) (u (u F 6 a4) 7 v4), 0, 0)) hc47 2 rfl trivial ?_
                refine R_cv hc47 rfl rfl (l_word8 (A := (u (u (u (u (u (u (u (u A 23 (A 23)) 24 (A 24)) 25 (A 25)) 27 (A 27)) 28 (A 28)) 26 (wr (A 26) x 0)) 21 (wr (A 21) x 2)) 22 (wr (A 22) x v4))) (F := (u (u F 6 a4) 7 v4)) (LENS_u (LENS_u (LENS_u (LENS_u (LENS_u (LENS_u (LENS_u (LENS_u hL (by show (A 23).length = (A 23).length; omega)) (by show (A 24).length = (A 24).length; omega)) (by show (A 25).length = (A 25).length; omega)) (by show (A 27).length = (A 27).length; omega)) (by show (A 28).length = (A 28).length; omega)) (by show (wr (A 26) x 0).length = (A 26).length; simp only [wr_len])) (by show (wr (A 21) x 2).length = (A 21).length; simp only [wr_len])) (by show (wr (A 22) x v4).length = (A 22).length; simp only [wr_len])) h5 ⟨by (show 0 ≤ a4); omega, by (show a4 ≤ F 5); omega⟩) (fun r G9 hp9 => ?_)
                obtain ⟨b5, a5, rfl, rfl, hb5, hw5, p5, q5⟩ := hp9
                have p5 : 0 ≤ a5 := p5
                have q5 : a5 ≤ F 5 := q5
                refine R_s (f' := (6, [some (vR 17), some (vR 20), some (vI x)], [vI b5], LAY (u (u (u (u (u (u (u (u A 23 (A 23)) 24 (A 24)) 25 (A 25)) 27 (A 27)) 28 (A 28)) 26 (wr (A 26) x 0)) 21 (wr (A 21) x 2)) 22 (wr (A 22) x v4)) (u (u F 7 v4) 6 a5), 0, 0)) hc47 0 rfl trivial ?_
                refine R_if (t := 17) hc47 rfl rfl (fun (c8 : b5 = 0) => ?_) (fun (c8 : ¬ (b5 = 0)) => ?_)
                · refine R_s (P := True) (f' := (18, [some (vR 17), some (vR 20), some (vI x)], [vI 0], LAY (u (u (u (u (u (u (u (u A 23 (A 23)) 24 (A 24)) 25 (A 25)) 27 (A 27)) 28 (A 28)) 26 (wr (A 26) x 0)) 21 (wr (A 21) x 2)) 22 (wr (A 22) x v4)) (u (u F 7 v4) 6 a5), 0, 0)) hc47 1 rfl trivial ?_
                  refine R_retz hc47 rfl rfl (Or.inl rfl) ?_
                  refine R_s (f' := (42, [some (vR 17), some (vR 20), some (vI x)], [vI 0], LAY (u (u (u (u (u (u (u (u A 23 (A 23)) 24 (A 24)) 25 (A 25)) 27 (A 27)) 28 (A 28)) 26 (wr (A 26) x 0)) 21 (wr (A 21) x 2)) 22 (wr (A 22) x v4)) (u (u F 7 v4) 6 a5), 0, 0)) hc42 0 rfl trivial ?_
                  refine R_retz hc42 rfl rfl (Or.inl rfl) ?_
                  refine R_s (f' := (114, [some (vR 17), some (vR 20), some (vI x), some (vI 0), some (vI (nx (A 18) (F 5) (F 6)))], [vI 0], LAY (u (u (u (u (u (u (u (u A 23 (A 23)) 24 (A 24)) 25 (A 25)) 27 (A 27)) 28 (A 28)) 26 (wr (A 26) x 0)) 21 (wr (A 21) x 2)) 22 (wr (A 22) x v4)) (u (u F 7 v4) 6 a5), 0, 0)) hc39 0 rfl trivial ?_
                  refine R_if (t := 130) hc39 rfl rfl (fun (_ : 0 = 0) => ?_) (fun (z : ¬ (0 = 0)) => absurd (by decide) z)
                  refine R_s (P := True) (f' := (131, [some (vR 17), some (vR 20), some (vI x), some (vI 0), some (vI (nx (A 18) (F 5) (F 6)))], [vI 0], LAY (u (u (u (u (u (u (u (u A 23 (A 23)) 24 (A 24)) 25 (A 25)) 27 (A 27)) 28 (A 28)) 26 (wr (A 26) x 0)) 21 (wr (A 21) x 2)) 22 (wr (A 22) x v4)) (u (u F 7 v4) 6 a5), 0, 0)) hc39 1 rfl trivial ?_
                  refine R_retz hc39 rfl rfl (Or.inl rfl) ⟨0, wr (A 21) x 2, wr (A 22) x v4, A 23, A 24, A 25, wr (A 26) x 0, A 27, A 28, a5, v4, rfl, rfl, (by (try simp only [wr_len]); omega), (by (try simp only [wr_len]); omega), (by (try simp only [wr_len]); omega), (by (try simp only [wr_len]); omega), (by (try simp only [wr_len]); omega), (by (try simp only [wr_len]); omega), (by (try simp only [wr_len]); omega), (by (try simp only [wr_len]); omega), by decide, by omega, by omega, fun q hq => by rw [rd_wr_n (by omega) (by omega) (by omega)], fun q hq => by rw [rd_wr_n (by omega) (by omega) (by omega)], fun _ _ => rfl, fun _ _ => rfl, fun _ _ => rfl, fun q hq => by rw [rd_wr_n (by omega) (by omega) (by omega)], fun _ _ => rfl, fun _ _ => rfl, ?_⟩
                  have ehw3 : b3 = 1 := by omega
                  rw [ehw3] at hw3
                  have hw3n : wD (A 18) (F 5) MAN (0, F 6) = (0, a3) := hw3
                  have ehw4 : b4 = 1 := by omega
                  rw [ehw4] at hw4
                  have hw4n : dG (A 18) (F 5) 4 (0, a3) = ((0, a4), v4) := hw4
                  have ehw5 : b5 = 0 := by omega
                  rw [ehw5] at hw5
                  have hw5n : wD (A 18) (F 5) PP (0, a4) = (1, a5) := hw5
                  have hk : eK (A 18) (F 5) i (0, F 6) = 2 := by
                    unfold eK
                    (try dsimp only)
                    rw [if_neg (fun z => by omega)]
                    rw [if_neg (fun z => by omega)]
                    rw [if_pos ⟨by omega, by omega⟩]
                  have eP : pN (A 18) (F 5) MAN (0, F 6) = ((0, a4), v4) := by unfold pN; rw [hw3n, hw4n]
                  have eR : pR (A 18) (F 5) MAN (0, F 6) = ((1, a5), 0) := by
                    unfold pR
                    rw [eP]
                    (try dsimp only)
                    rw [hw5n]
                    rw [dG_f]
                  have eT : tB (A 18) (F 5) i (0, F 6) = (1, a5) := by rw [(eN_2 hk).2, eR]
                  have eS : eN (A 18) (F 5) i (0, F 6) = (1, a5) := by rw [(eN_2 hk).1, eT, tS_f]
                  exact ⟨eS, fun z => absurd z (by decide)⟩
                · refine R_s (P := True) (f' := (11, [some (vR 17), some (vR 20), some (vI x)], [vI 2, vR 17], LAY (u (u (u (u (u (u (u (u A 23 (A 23)) 24 (A 24)) 25 (A 25)) 27 (A 27)) 28 (A 28)) 26 (wr (A 26) x 0)) 21 (wr (A 21) x 2)) 22 (wr (A 22) x v4)) (u (u F 7 v4) 6 a5), 0, 0)) hc47 2 rfl trivial ?_
                  refine R_cv hc47 rfl rfl (l_numb (A := (u (u (u (u (u (u (u (u A 23 (A 23)) 24 (A 24)) 25 (A 25)) 27 (A 27)) 28 (A 28)) 26 (wr (A 26) x 0)) 21 (wr (A 21) x 2)) 22 (wr (A 22) x v4))) (F := (u (u F 7 v4) 6 a5)) (LENS_u (LENS_u (LENS_u (LENS_u (LENS_u (LENS_u (LENS_u (LENS_u hL (by show (A 23).length = (A 23).length; omega)) (by show (A 24).length = (A 24).length; omega)) (by show (A 25).length = (A 25).length; omega)) (by show (A 27).length = (A 27).length; omega)) (by show (A 28).length = (A 28).length; omega)) (by show (wr (A 26) x 0).length = (A 26).length; simp only [wr_len])) (by show (wr (A 21) x 2).length = (A 21).length; simp only [wr_len])) (by show (wr (A 22) x v4).length = (A 22).length; simp only [wr_len])) h5 ⟨by (show 0 ≤ a5); omega, by (show a5 ≤ F 5); omega⟩ (kk := 2) (by decide) rfl) (fun r G9 hp9 => ?_)
                  obtain ⟨b6, a6, v6, rfl, rfl, hb6, hw6, p6, q6, w6⟩ := hp9
                  have p6 : 0 ≤ a6 := p6
                  have q6 : a6 ≤ F 5 := q6
                  refine R_s (f' := (14, [some (vR 17), some (vR 20), some (vI x)], [vI b6], LAY (u (u (u (u (u (u (u (u A 23 (A 23)) 24 (A 24)) 25 (A 25)) 27 (A 27)) 28 (A 28)) 26 (wr (A 26) x 0)) 21 (wr (A 21) x 2)) 22 (wr (A 22) x v4)) (u (u F 6 a6) 7 v6), 0, 0)) hc47 0 rfl trivial ?_
                  refine R_if (t := 19) hc47 rfl rfl (fun (c9 : ¬ b6 = 0) => ?_) (fun (c9 : ¬ (¬ b6 = 0)) => ?_)
                  · refine R_s (P := (0 ≤ x ∧ x < ((A 23).length : Int)) ∧ True) (f' := (30, [some (vR 17), some (vR 20), some (vI x)], [vI 1], LAY (u (u (u (u (u (u (u (u A 24 (A 24)) 25 (A 25)) 27 (A 27)) 28 (A 28)) 26 (wr (A 26) x 0)) 21 (wr (A 21) x 2)) 22 (wr (A 22) x v4)) 23 (wr (A 23) x v6)) (u (u F 6 a6) 7 v6), 0, 0)) hc47 7 rfl ⟨⟨by omega, by omega⟩, trivial⟩ ?_
                    refine R_retz hc47 rfl rfl (Or.inr rfl) ?_
                    refine R_s (f' := (42, [some (vR 17), some (vR 20), some (vI x)], [vI 1], LAY (u (u (u (u (u (u (u (u A 24 (A 24)) 25 (A 25)) 27 (A 27)) 28 (A 28)) 26 (wr (A 26) x 0)) 21 (wr (A 21) x 2)) 22 (wr (A 22) x v4)) 23 (wr (A 23) x v6)) (u (u F 6 a6) 7 v6), 0, 0)) hc42 0 rfl trivial ?_
                    refine R_retz hc42 rfl rfl (Or.inr rfl) ?_
                    refine R_s (f' := (114, [some (vR 17), some (vR 20), some (vI x), some (vI 0), some (vI (nx (A 18) (F 5) (F 6)))], [vI 1], LAY (u (u (u (u (u (u (u (u A 24 (A 24)) 25 (A 25)) 27 (A 27)) 28 (A 28)) 26 (wr (A 26) x 0)) 21 (wr (A 21) x 2)) 22 (wr (A 22) x v4)) 23 (wr (A 23) x v6)) (u (u F 6 a6) 7 v6), 0, 0)) hc39 0 rfl trivial ?_
                    refine R_if (t := 130) hc39 rfl rfl (fun (z : 1 = 0) => absurd z (by decide)) (fun (_ : ¬ (1 = 0)) => ?_)
                    refine R_s (P := True) (f' := (120, [some (vR 17), some (vR 20), some (vI x), some (vI 0), some (vI (nx (A 18) (F 5) (F 6)))], [vI x, vR 20, vR 17], LAY (u (u (u (u (u (u (u (u A 24 (A 24)) 25 (A 25)) 27 (A 27)) 28 (A 28)) 26 (wr (A 26) x 0)) 21 (wr (A 21) x 2)) 22 (wr (A 22) x v4)) 23 (wr (A 23) x v6)) (u (u F 6 a6) 7 v6), 0, 0)) hc39 3 rfl trivial ?_
                    refine R_cv hc39 rfl rfl (l_rtest0 (A := (u (u (u (u (u (u (u (u A 24 (A 24)) 25 (A 25)) 27 (A 27)) 28 (A 28)) 26 (wr (A 26) x 0)) 21 (wr (A 21) x 2)) 22 (wr (A 22) x v4)) 23 (wr (A 23) x v6))) (F := (u (u F 6 a6) 7 v6)) (LENS_u (LENS_u (LENS_u (LENS_u (LENS_u (LENS_u (LENS_u (LENS_u hL (by show (A 24).length = (A 24).length; omega)) (by show (A 25).length = (A 25).length; omega)) (by show (A 27).length = (A 27).length; omega)) (by show (A 28).length = (A 28).length; omega)) (by show (wr (A 26) x 0).length = (A 26).length; simp only [wr_len])) (by show (wr (A 21) x 2).length = (A 21).length; simp only [wr_len])) (by show (wr (A 22) x v4).length = (A 22).length; simp only [wr_len])) (by show (wr (A 23) x v6).length = (A 23).length; simp only [wr_len])) h5 ⟨by (show 0 ≤ a6); omega, by (show a6 ≤ F 5); omega⟩ ex hi (by show rd (wr (A 26) x 0) i = 0; rw [← ex]; exact rd_wr_s (by omega) (by omega))) (fun r G9 hp9 => ?_)
                    obtain ⟨b7, s5_7, s6_7, s7_7, a7, v7, rfl, rfl, l7_5, l7_6, l7_7, hb7, p7, q7, kp7_5, kp7_6, kp7_7, hw7, hv7⟩ := hp9
                    have q7 : a7 ≤ F 5 := q7
                    have kp7_5 : ∀ q : Nat, q ≠ i → rd s5_7 q = rd (wr (A 26) x 0) q := kp7_5
                    have kp7_6 : ∀ q : Nat, q ≠ i → rd s6_7 q = rd (A 27) q := kp7_6
                    have kp7_7 : ∀ q : Nat, q ≠ i → rd s7_7 q = rd (A 28) q := kp7_7
                    refine R_s (f' := (123, [some (vR 17), some (vR 20), some (vI x), some (vI 0), some (vI (nx (A 18) (F 5) (F 6)))], [vI b7], LAY (u (u (u (u (u (u (u (u A 24 (A 24)) 25 (A 25)) 21 (wr (A 21) x 2)) 22 (wr (A 22) x v4)) 23 (wr (A 23) x v6)) 26 s5_7) 27 s6_7) 28 s7_7) (u (u F 6 a7) 7 v7), 0, 0)) hc39 0 rfl trivial ?_
                    refine R_if (t := 130) hc39 rfl rfl (fun (c11 : b7 = 0) => ?_) (fun (c11 : ¬ (b7 = 0)) => ?_)
                    · refine R_s (P := True) (f' := (131, [some (vR 17), some (vR 20), some (vI x), some (vI 0), some (vI (nx (A 18) (F 5) (F 6)))], [vI 0], LAY (u (u (u (u (u (u (u (u A 24 (A 24)) 25 (A 25)) 21 (wr (A 21) x 2)) 22 (wr (A 22) x v4)) 23 (wr (A 23) x v6)) 26 s5_7) 27 s6_7) 28 s7_7) (u (u F 6 a7) 7 v7), 0, 0)) hc39 1 rfl trivial ?_
                      refine R_retz hc39 rfl rfl (Or.inl rfl) ⟨0, wr (A 21) x 2, wr (A 22) x v4, wr (A 23) x v6, A 24, A 25, s5_7, s6_7, s7_7, a7, v7, rfl, rfl, (by (try simp only [wr_len]); omega), (by (try simp only [wr_len]); omega), (by (try simp only [wr_len]); omega), (by (try simp only [wr_len]); omega), (by (try simp only [wr_len]); omega), (by (try simp only [wr_len]); omega), (by (try simp only [wr_len]); omega), (by (try simp only [wr_len]); omega), by decide, by omega, by omega, fun q hq => by rw [rd_wr_n (by omega) (by omega) (by omega)], fun q hq => by rw [rd_wr_n (by omega) (by omega) (by omega)], fun q hq => by rw [rd_wr_n (by omega) (by omega) (by omega)], fun _ _ => rfl, fun _ _ => rfl, fun q hq => by rw [kp7_5 q hq, rd_wr_n (by omega) (by omega) (by omega)], fun q hq => by rw [kp7_6 q hq], fun q hq => by rw [kp7_7 q hq], ?_⟩
                      have ehw3 : b3 = 1 := by omega
                      rw [ehw3] at hw3
                      have hw3n : wD (A 18) (F 5) MAN (0, F 6) = (0, a3) := hw3
                      have ehw4 : b4 = 1 := by omega
                      rw [ehw4] at hw4
                      have hw4n : dG (A 18) (F 5) 4 (0, a3) = ((0, a4), v4) := hw4
                      have ehw5 : b5 = 1 := by omega
                      rw [ehw5] at hw5
                      have hw5n : wD (A 18) (F 5) PP (0, a4) = (0, a5) := hw5
                      have ehw6 : b6 = 1 := by omega
                      rw [ehw6] at hw6
                      have hw6n : dG (A 18) (F 5) 2 (0, a5) = ((0, a6), v6) := hw6
                      have ehw7 : b7 = 0 := by omega
                      rw [ehw7] at hw7
                      have hw7n : tS (A 18) (F 5) (0, a6) = (1, a7) := hw7
                      have hk : eK (A 18) (F 5) i (0, F 6) = 2 := by
                        unfold eK
                        (try dsimp only)
                        rw [if_neg (fun z => by omega)]
                        rw [if_neg (fun z => by omega)]
                        rw [if_pos ⟨by omega, by omega⟩]
                      have eP : pN (A 18) (F 5) MAN (0, F 6) = ((0, a4), v4) := by unfold pN; rw [hw3n, hw4n]
                      have eR : pR (A 18) (F 5) MAN (0, F 6) = ((0, a6), v6) := by
                        unfold pR
                        rw [eP]
                        (try dsimp only)
                        rw [hw5n]
                        rw [hw6n]
                      have eT : tB (A 18) (F 5) i (0, F 6) = (0, a6) := by rw [(eN_2 hk).2, eR]
                      have eS : eN (A 18) (F 5) i (0, F 6) = (1, a7) := by rw [(eN_2 hk).1, eT]; exact hw7n
                      exact ⟨eS, fun z => absurd z (by decide)⟩
                    · refine R_s (P := True) (f' := (131, [some (vR 17), some (vR 20), some (vI x), some (vI 0), some (vI (nx (A 18) (F 5) (F 6)))], [vI 1], LAY (u (u (u (u (u (u (u (u A 24 (A 24)) 25 (A 25)) 21 (wr (A 21) x 2)) 22 (wr (A 22) x v4)) 23 (wr (A 23) x v6)) 26 s5_7) 27 s6_7) 28 s7_7) (u (u F 6 a7) 7 v7), 0, 0)) hc39 2 rfl trivial ?_
                      refine R_retz hc39 rfl rfl (Or.inr rfl) ⟨1, wr (A 21) x 2, wr (A 22) x v4, wr (A 23) x v6, A 24, A 25, s5_7, s6_7, s7_7, a7, v7, rfl, rfl, (by (try simp only [wr_len]); omega), (by (try simp only [wr_len]); omega), (by (try simp only [wr_len]); omega), (by (try simp only [wr_len]); omega), (by (try simp only [wr_len]); omega), (by (try simp only [wr_len]); omega), (by (try simp only [wr_len]); omega), (by (try simp only [wr_len]); omega), by decide, by omega, by omega, fun q hq => by rw [rd_wr_n (by omega) (by omega) (by omega)], fun q hq => by rw [rd_wr_n (by omega) (by omega) (by omega)], fun q hq => by rw [rd_wr_n (by omega) (by omega) (by omega)], fun _ _ => rfl, fun _ _ => rfl, fun q hq => by rw [kp7_5 q hq, rd_wr_n (by omega) (by omega) (by omega)], fun q hq => by rw [kp7_6 q hq], fun q hq => by rw [kp7_7 q hq], ?_⟩
                      have ehw3 : b3 = 1 := by omega
                      rw [ehw3] at hw3
                      have hw3n : wD (A 18) (F 5) MAN (0, F 6) = (0, a3) := hw3
                      have ehw4 : b4 = 1 := by omega
                      rw [ehw4] at hw4
                      have hw4n : dG (A 18) (F 5) 4 (0, a3) = ((0, a4), v4) := hw4
                      have ehw5 : b5 = 1 := by omega
                      rw [ehw5] at hw5
                      have hw5n : wD (A 18) (F 5) PP (0, a4) = (0, a5) := hw5
                      have ehw6 : b6 = 1 := by omega
                      rw [ehw6] at hw6
                      have hw6n : dG (A 18) (F 5) 2 (0, a5) = ((0, a6), v6) := hw6
                      have ehw7 : b7 = 1 := by omega
                      rw [ehw7] at hw7
                      have hw7n : tS (A 18) (F 5) (0, a6) = (0, a7) := hw7
                      have hk : eK (A 18) (F 5) i (0, F 6) = 2 := by
                        unfold eK
                        (try dsimp only)
                        rw [if_neg (fun z => by omega)]
                        rw [if_neg (fun z => by omega)]
                        rw [if_pos ⟨by omega, by omega⟩]
                      have eP : pN (A 18) (F 5) MAN (0, F 6) = ((0, a4), v4) := by unfold pN; rw [hw3n, hw4n]
                      have eR : pR (A 18) (F 5) MAN (0, F 6) = ((0, a6), v6) := by
                        unfold pR
                        rw [eP]
                        (try dsimp only)
                        rw [hw5n]
                        rw [hw6n]
                      have eT : tB (A 18) (F 5) i (0, F 6) = (0, a6) := by rw [(eN_2 hk).2, eR]
                      have eS : eN (A 18) (F 5) i (0, F 6) = (0, a7) := by rw [(eN_2 hk).1, eT]; exact hw7n
                      have r0 : rd (wr (A 21) x 2) i = 2 := by rw [← ex]; exact rd_wr_s (by omega) (by (try simp only [wr_len]); omega)
                      have r1 : rd (wr (A 22) x v4) i = v4 := by rw [← ex]; exact rd_wr_s (by omega) (by (try simp only [wr_len]); omega)
                      have r2 : rd (wr (A 23) x v6) i = v6 := by rw [← ex]; exact rd_wr_s (by omega) (by (try simp only [wr_len]); omega)
                      exact ⟨eS, fun _ => ⟨by rw [r0, hk], fun z => absurd z (by rw [r0]; decide), fun z => absurd z (by rw [r0]; decide), fun _ => ⟨by rw [r1, eP], by rw [r2, eR]⟩, fun z => absurd z (by rw [r0]; decide), fun _ => by
                        rw [eT]
                        have z := hv7 (by omega)
                        exact ⟨z.1, z.2.imp (fun w => by rw [z.1, w]; rfl) id⟩⟩⟩
                  · refine R_s (P := True) (f' := (18, [some (vR 17), some (vR 20), some (vI x)], [vI 0], LAY (u (u (u (u (u (u (u (u A 23 (A 23)) 24 (A 24)) 25 (A 25)) 27 (A 27)) 28 (A 28)) 26 (wr (A 26) x 0)) 21 (wr (A 21) x 2)) 22 (wr (A 22) x v4)) (u (u F 6 a6) 7 v6), 0, 0)) hc47 1 rfl trivial ?_
                    refine R_retz hc47 rfl rfl (Or.inl rfl) ?_
                    refine R_s (f' := (42, [some (vR 17), some (vR 20), some (vI x)], [vI 0], LAY (u (u (u (u (u (u (u (u A 23 (A 23)) 24 (A 24)) 25 (A 25)) 27 (A 27)) 28 (A 28)) 26 (wr (A 26) x 0)) 21 (wr (A 21) x 2)) 22 (wr (A 22) x v4)) (u (u F 6 a6) 7 v6), 0, 0)) hc42 0 rfl trivial ?_
                    refine R_retz hc42 rfl rfl (Or.inl rfl) ?_
                    refine R_s (f' := (114, [some (vR 17), some (vR 20), some (vI x), some (vI 0), some (vI (nx (A 18) (F 5) (F 6)))], [vI 0], LAY (u (u (u (u (u (u (u (u A 23 (A 23)) 24 (A 24)) 25 (A 25)) 27 (A 27)) 28 (A 28)) 26 (wr (A 26) x 0)) 21 (wr (A 21) x 2)) 22 (wr (A 22) x v4)) (u (u F 6 a6) 7 v6), 0, 0)) hc39 0 rfl trivial ?_
                    refine R_if (t := 130) hc39 rfl rfl (fun (_ : 0 = 0) => ?_) (fun (z : ¬ (0 = 0)) => absurd (by decide) z)
                    refine R_s (P := True) (f' := (131, [some (vR 17), some (vR 20), some (vI x), some (vI 0), some (vI (nx (A 18) (F 5) (F 6)))], [vI 0], LAY (u (u (u (u (u (u (u (u A 23 (A 23)) 24 (A 24)) 25 (A 25)) 27 (A 27)) 28 (A 28)) 26 (wr (A 26) x 0)) 21 (wr (A 21) x 2)) 22 (wr (A 22) x v4)) (u (u F 6 a6) 7 v6), 0, 0)) hc39 1 rfl trivial ?_
                    refine R_retz hc39 rfl rfl (Or.inl rfl) ⟨0, wr (A 21) x 2, wr (A 22) x v4, A 23, A 24, A 25, wr (A 26) x 0, A 27, A 28, a6, v6, rfl, rfl, (by (try simp only [wr_len]); omega), (by (try simp only [wr_len]); omega), (by (try simp only [wr_len]); omega), (by (try simp only [wr_len]); omega), (by (try simp only [wr_len]); omega), (by (try simp only [wr_len]); omega), (by (try simp only [wr_len]); omega), (by (try simp only [wr_len]); omega), by decide, by omega, by omega, fun q hq => by rw [rd_wr_n (by omega) (by omega) (by omega)], fun q hq => by rw [rd_wr_n (by omega) (by omega) (by omega)], fun _ _ => rfl, fun _ _ => rfl, fun _ _ => rfl, fun q hq => by rw [rd_wr_n (by omega) (by omega) (by omega)], fun _ _ => rfl, fun _ _ => rfl, ?_⟩
                    have ehw3 : b3 = 1 := by omega
                    rw [ehw3] at hw3
                    have hw3n : wD (A 18) (F 5) MAN (0, F 6) = (0, a3) := hw3
                    have ehw4 : b4 = 1 := by omega
                    rw [ehw4] at hw4
                    have hw4n : dG (A 18) (F 5) 4 (0, a3) = ((0, a4), v4) := hw4
                    have ehw5 : b5 = 1 := by omega
                    rw [ehw5] at hw5
                    have hw5n : wD (A 18) (F 5) PP (0, a4) = (0, a5) := hw5
                    have ehw6 : b6 = 0 := by omega
                    rw [ehw6] at hw6
                    have hw6n : dG (A 18) (F 5) 2 (0, a5) = ((1, a6), v6) := hw6
                    have hk : eK (A 18) (F 5) i (0, F 6) = 2 := by
                      unfold eK
                      (try dsimp only)
                      rw [if_neg (fun z => by omega)]
                      rw [if_neg (fun z => by omega)]
                      rw [if_pos ⟨by omega, by omega⟩]
                    have eP : pN (A 18) (F 5) MAN (0, F 6) = ((0, a4), v4) := by unfold pN; rw [hw3n, hw4n]
                    have eR : pR (A 18) (F 5) MAN (0, F 6) = ((1, a6), v6) := by
                      unfold pR
                      rw [eP]
                      (try dsimp only)
                      rw [hw5n]
                      rw [hw6n]
                    have eT : tB (A 18) (F 5) i (0, F 6) = (1, a6) := by rw [(eN_2 hk).2, eR]
                    have eS : eN (A 18) (F 5) i (0, F 6) = (1, a6) := by rw [(eN_2 hk).1, eT, tS_f]
                    exact ⟨eS, fun z => absurd z (by decide)⟩
              · refine R_s (P := True) (f' := (25, [some (vR 17), some (vR 20), some (vI x)], [vI 0], LAY (u (u (u (u (u (u (u (u A 22 (A 22)) 23 (A 23)) 24 (A 24)) 25 (A 25)) 27 (A 27)) 28 (A 28)) 26 (wr (A 26) x 0)) 21 (wr (A 21) x 2)) (u (u F 6 a4) 7 v4), 0, 0)) hc42 1 rfl trivial ?_
                refine R_retz hc42 rfl rfl (Or.inl rfl) ?_
                refine R_s (f' := (114, [some (vR 17), some (vR 20), some (vI x), some (vI 0), some (vI (nx (A 18) (F 5) (F 6)))], [vI 0], LAY (u (u (u (u (u (u (u (u A 22 (A 22)) 23 (A 23)) 24 (A 24)) 25 (A 25)) 27 (A 27)) 28 (A 28)) 26 (wr (A 26) x 0)) 21 (wr (A 21) x 2)) (u (u F 6 a4) 7 v4), 0, 0)) hc39 0 rfl trivial ?_
                refine R_if (t := 130) hc39 rfl rfl (fun (_ : 0 = 0) => ?_) (fun (z : ¬ (0 = 0)) => absurd (by decide) z)
                refine R_s (P := True) (f' := (131, [some (vR 17), some (vR 20), some (vI x), some (vI 0), some (vI (nx (A 18) (F 5) (F 6)))], [vI 0], LAY (u (u (u (u (u (u (u (u A 22 (A 22)) 23 (A 23)) 24 (A 24)) 25 (A 25)) 27 (A 27)) 28 (A 28)) 26 (wr (A 26) x 0)) 21 (wr (A 21) x 2)) (u (u F 6 a4) 7 v4), 0, 0)) hc39 1 rfl trivial ?_
                refine R_retz hc39 rfl rfl (Or.inl rfl) ⟨0, wr (A 21) x 2, A 22, A 23, A 24, A 25, wr (A 26) x 0, A 27, A 28, a4, v4, rfl, rfl, (by (try simp only [wr_len]); omega), (by (try simp only [wr_len]); omega), (by (try simp only [wr_len]); omega), (by (try simp only [wr_len]); omega), (by (try simp only [wr_len]); omega), (by (try simp only [wr_len]); omega), (by (try simp only [wr_len]); omega), (by (try simp only [wr_len]); omega), by decide, by omega, by omega, fun q hq => by rw [rd_wr_n (by omega) (by omega) (by omega)], fun _ _ => rfl, fun _ _ => rfl, fun _ _ => rfl, fun _ _ => rfl, fun q hq => by rw [rd_wr_n (by omega) (by omega) (by omega)], fun _ _ => rfl, fun _ _ => rfl, ?_⟩
                have ehw3 : b3 = 1 := by omega
                rw [ehw3] at hw3
                have hw3n : wD (A 18) (F 5) MAN (0, F 6) = (0, a3) := hw3
                have ehw4 : b4 = 0 := by omega
                rw [ehw4] at hw4
                have hw4n : dG (A 18) (F 5) 4 (0, a3) = ((1, a4), v4) := hw4
                have hk : eK (A 18) (F 5) i (0, F 6) = 2 := by
                  unfold eK
                  (try dsimp only)
                  rw [if_neg (fun z => by omega)]
                  rw [if_neg (fun z => by omega)]
                  rw [if_pos ⟨by omega, by omega⟩]
                have eP : pN (A 18) (F 5) MAN (0, F 6) = ((1, a4), v4) := by unfold pN; rw [hw3n, hw4n]
                have eR : pR (A 18) (F 5) MAN (0, F 6) = ((1, a4), 0) := by
                  unfold pR
                  rw [eP]
                  (try dsimp only)
                  rw [wD_f]
                  rw [dG_f]
                have eT : tB (A 18) (F 5) i (0, F 6) = (1, a4) := by rw [(eN_2 hk).2, eR]
                have eS : eN (A 18) (F 5) i (0, F 6) = (1, a4) := by rw [(eN_2 hk).1, eT, tS_f]
                exact ⟨eS, fun z => absurd z (by decide)⟩
      · refine R_s (P := True) (f' := (70, [some (vR 17), some (vR 20), some (vI x), some (vI 0), some (vI (nx (A 18) (F 5) (F 6)))], [vI 0], LAY (u (u (u (u (u (u (u (u A 21 (A 21)) 22 (A 22)) 23 (A 23)) 24 (A 24)) 25 (A 25)) 27 (A 27)) 28 (A 28)) 26 (wr (A 26) x 0)) (u (u F 6 (F 6)) 7 (F 7)), 0, 0)) hc39 1 rfl trivial ?_
        refine R_if (t := 97) hc39 rfl rfl (fun (z : ¬ 0 = 0) => absurd z (by decide)) (fun (_ : ¬ (¬ 0 = 0)) => ?_)
        refine R_s (P := True) (f' := (76, [some (vR 17), some (vR 20), some (vI x), some (vI 0), some (vI (nx (A 18) (F 5) (F 6)))], [vI x, vR 20, vR 17], LAY (u (u (u (u (u (u (u (u A 21 (A 21)) 22 (A 22)) 23 (A 23)) 24 (A 24)) 25 (A 25)) 27 (A 27)) 28 (A 28)) 26 (wr (A 26) x 0)) (u (u F 6 (F 6)) 7 (F 7)), 0, 0)) hc39 3 rfl trivial ?_
        refine R_cv hc39 rfl rfl ?_ (fun r G h => h)
        refine R_s (P := (0 ≤ x ∧ x < ((A 21).length : Int)) ∧ True) (f' := (10, [some (vR 17), some (vR 20), some (vI x)], [vS 7, vR 17], LAY (u (u (u (u (u (u (u (u A 22 (A 22)) 23 (A 23)) 24 (A 24)) 25 (A 25)) 27 (A 27)) 28 (A 28)) 26 (wr (A 26) x 0)) 21 (wr (A 21) x 1)) (u (u F 6 (F 6)) 7 (F 7)), 0, 0)) hc41 7 rfl ⟨⟨by omega, by omega⟩, trivial⟩ ?_
        refine R_cv hc41 rfl rfl (l_word7 (A := (u (u (u (u (u (u (u (u A 22 (A 22)) 23 (A 23)) 24 (A 24)) 25 (A 25)) 27 (A 27)) 28 (A 28)) 26 (wr (A 26) x 0)) 21 (wr (A 21) x 1))) (F := (u (u F 6 (F 6)) 7 (F 7))) (LENS_u (LENS_u (LENS_u (LENS_u (LENS_u (LENS_u (LENS_u (LENS_u hL (by show (A 22).length = (A 22).length; omega)) (by show (A 23).length = (A 23).length; omega)) (by show (A 24).length = (A 24).length; omega)) (by show (A 25).length = (A 25).length; omega)) (by show (A 27).length = (A 27).length; omega)) (by show (A 28).length = (A 28).length; omega)) (by show (wr (A 26) x 0).length = (A 26).length; simp only [wr_len])) (by show (wr (A 21) x 1).length = (A 21).length; simp only [wr_len])) h5 ⟨by (show 0 ≤ F 6); omega, by (show F 6 ≤ F 5); omega⟩) (fun r G9 hp9 => ?_)
        obtain ⟨b8, a8, rfl, rfl, hb8, hw8, p8, q8⟩ := hp9
        have p8 : 0 ≤ a8 := p8
        have q8 : a8 ≤ F 5 := q8
        refine R_s (f' := (13, [some (vR 17), some (vR 20), some (vI x)], [vI b8], LAY (u (u (u (u (u (u (u (u A 22 (A 22)) 23 (A 23)) 24 (A 24)) 25 (A 25)) 27 (A 27)) 28 (A 28)) 26 (wr (A 26) x 0)) 21 (wr (A 21) x 1)) (u (u F 7 (F 7)) 6 a8), 0, 0)) hc41 0 rfl trivial ?_
        refine R_if (t := 24) hc41 rfl rfl (fun (c12 : b8 = 0) => ?_) (fun (c12 : ¬ (b8 = 0)) => ?_)
        · refine R_s (P := True) (f' := (25, [some (vR 17), some (vR 20), some (vI x)], [vI 0], LAY (u (u (u (u (u (u (u (u A 22 (A 22)) 23 (A 23)) 24 (A 24)) 25 (A 25)) 27 (A 27)) 28 (A 28)) 26 (wr (A 26) x 0)) 21 (wr (A 21) x 1)) (u (u F 7 (F 7)) 6 a8), 0, 0)) hc41 1 rfl trivial ?_
          refine R_retz hc41 rfl rfl (Or.inl rfl) ?_
          refine R_s (f' := (79, [some (vR 17), some (vR 20), some (vI x), some (vI 0), some (vI (nx (A 18) (F 5) (F 6)))], [vI 0], LAY (u (u (u (u (u (u (u (u A 22 (A 22)) 23 (A 23)) 24 (A 24)) 25 (A 25)) 27 (A 27)) 28 (A 28)) 26 (wr (A 26) x 0)) 21 (wr (A 21) x 1)) (u (u F 7 (F 7)) 6 a8), 0, 0)) hc39 0 rfl trivial ?_
          refine R_if (t := 95) hc39 rfl rfl (fun (_ : 0 = 0) => ?_) (fun (z : ¬ (0 = 0)) => absurd (by decide) z)
          refine R_s (P := True) (f' := (96, [some (vR 17), some (vR 20), some (vI x), some (vI 0), some (vI (nx (A 18) (F 5) (F 6)))], [vI 0], LAY (u (u (u (u (u (u (u (u A 22 (A 22)) 23 (A 23)) 24 (A 24)) 25 (A 25)) 27 (A 27)) 28 (A 28)) 26 (wr (A 26) x 0)) 21 (wr (A 21) x 1)) (u (u F 7 (F 7)) 6 a8), 0, 0)) hc39 1 rfl trivial ?_
          refine R_retz hc39 rfl rfl (Or.inl rfl) ⟨0, wr (A 21) x 1, A 22, A 23, A 24, A 25, wr (A 26) x 0, A 27, A 28, a8, F 7, rfl, rfl, (by (try simp only [wr_len]); omega), (by (try simp only [wr_len]); omega), (by (try simp only [wr_len]); omega), (by (try simp only [wr_len]); omega), (by (try simp only [wr_len]); omega), (by (try simp only [wr_len]); omega), (by (try simp only [wr_len]); omega), (by (try simp only [wr_len]); omega), by decide, by omega, by omega, fun q hq => by rw [rd_wr_n (by omega) (by omega) (by omega)], fun _ _ => rfl, fun _ _ => rfl, fun _ _ => rfl, fun _ _ => rfl, fun q hq => by rw [rd_wr_n (by omega) (by omega) (by omega)], fun _ _ => rfl, fun _ _ => rfl, ?_⟩
          have ehw8 : b8 = 0 := by omega
          rw [ehw8] at hw8
          have hw8n : wD (A 18) (F 5) LINE (0, F 6) = (1, a8) := hw8
          have hk : eK (A 18) (F 5) i (0, F 6) = 1 := by
            unfold eK
            (try dsimp only)
            rw [if_neg (fun z => by omega)]
            rw [if_pos ⟨by omega, by omega⟩]
          have eP : pN (A 18) (F 5) LINE (0, F 6) = ((1, a8), 0) := by unfold pN; rw [hw8n, dG_f]
          have eR : pR (A 18) (F 5) LINE (0, F 6) = ((1, a8), 0) := by
            unfold pR
            rw [eP]
            (try dsimp only)
            rw [wD_f]
            rw [dG_f]
          have eL : pL (A 18) (F 5) (0, F 6) = (1, a8) := by
            unfold pL
            rw [eR]
            (try dsimp only)
            rw [wD_f]
          have eT : tB (A 18) (F 5) i (0, F 6) = (1, a8) := by
            rw [(eN_1 hk).2, eL]
            split
            · exact wD_f _
            · exact wD_f _
          have eS : eN (A 18) (F 5) i (0, F 6) = (1, a8) := by rw [(eN_1 hk).1, eT, tS_f]
          exact ⟨eS, fun z => absurd z (by decide)⟩
        · refine R_s (P := True) (f' := (18, [some (vR 17), some (vR 20), some (vI x)], [vI 4, vR 17], LAY (u (u (u (u (u (u (u (u A 22 (A 22)) 23 (A 23)) 24 (A 24)) 25 (A 25)) 27 (A 27)) 28 (A 28)) 26 (wr (A 26) x 0)) 21 (wr (A 21) x 1)) (u (u F 7 (F 7)) 6 a8), 0, 0)) hc41 2 rfl trivial ?_
          refine R_cv hc41 rfl rfl (l_numb (A := (u (u (u (u (u (u (u (u A 22 (A 22)) 23 (A 23)) 24 (A 24)) 25 (A 25)) 27 (A 27)) 28 (A 28)) 26 (wr (A 26) x 0)) 21 (wr (A 21) x 1))) (F := (u (u F 7 (F 7)) 6 a8)) (LENS_u (LENS_u (LENS_u (LENS_u (LENS_u (LENS_u (LENS_u (LENS_u hL (by show (A 22).length = (A 22).length; omega)) (by show (A 23).length = (A 23).length; omega)) (by show (A 24).length = (A 24).length; omega)) (by show (A 25).length = (A 25).length; omega)) (by show (A 27).length = (A 27).length; omega)) (by show (A 28).length = (A 28).length; omega)) (by show (wr (A 26) x 0).length = (A 26).length; simp only [wr_len])) (by show (wr (A 21) x 1).length = (A 21).length; simp only [wr_len])) h5 ⟨by (show 0 ≤ a8); omega, by (show a8 ≤ F 5); omega⟩ (kk := 4) (by decide) rfl) (fun r G9 hp9 => ?_)
          obtain ⟨b9, a9, v9, rfl, rfl, hb9, hw9, p9, q9, w9⟩ := hp9
          have p9 : 0 ≤ a9 := p9
          have q9 : a9 ≤ F 5 := q9
          refine R_s (f' := (21, [some (vR 17), some (vR 20), some (vI x)], [vI b9], LAY (u (u (u (u (u (u (u (u A 22 (A 22)) 23 (A 23)) 24 (A 24)) 25 (A 25)) 27 (A 27)) 28 (A 28)) 26 (wr (A 26) x 0)) 21 (wr (A 21) x 1)) (u (u F 6 a9) 7 v9), 0, 0)) hc41 0 rfl trivial ?_
          refine R_if (t := 26) hc41 rfl rfl (fun (c13 : ¬ b9 = 0) => ?_) (fun (c13 : ¬ (¬ b9 = 0)) => ?_)
          · refine R_s (P := (0 ≤ x ∧ x < ((A 22).length : Int)) ∧ True) (f' := (39, [some (vR 17), some (vR 20), some (vI x)], [vI x, vR 20, vR 17], LAY (u (u (u (u (u (u (u (u A 23 (A 23)) 24 (A 24)) 25 (A 25)) 27 (A 27)) 28 (A 28)) 26 (wr (A 26) x 0)) 21 (wr (A 21) x 1)) 22 (wr (A 22) x v9)) (u (u F 6 a9) 7 v9), 0, 0)) hc41 9 rfl ⟨⟨by omega, by omega⟩, trivial⟩ ?_
            refine R_cv hc41 rfl rfl ?_ (fun r G h => h)
            refine R_s (P := True) (f' := (3, [some (vR 17), some (vR 20), some (vI x)], [vS 8, vR 17], LAY (u (u (u (u (u (u (u (u A 23 (A 23)) 24 (A 24)) 25 (A 25)) 27 (A 27)) 28 (A 28)) 26 (wr (A 26) x 0)) 21 (wr (A 21) x 1)) 22 (wr (A 22) x v9)) (u (u F 6 a9) 7 v9), 0, 0)) hc47 2 rfl trivial ?_
            refine R_cv hc47 rfl rfl (l_word8 (A := (u (u (u (u (u (u (u (u A 23 (A 23)) 24 (A 24)) 25 (A 25)) 27 (A 27)) 28 (A 28)) 26 (wr (A 26) x 0)) 21 (wr (A 21) x 1)) 22 (wr (A 22) x v9))) (F := (u (u F 6 a9) 7 v9)) (LENS_u (LENS_u (LENS_u (LENS_u (LENS_u (LENS_u (LENS_u (LENS_u hL (by show (A 23).length = (A 23).length; omega)) (by show (A 24).length = (A 24).length; omega)) (by show (A 25).length = (A 25).length; omega)) (by show (A 27).length = (A 27).length; omega)) (by show (A 28).length = (A 28).length; omega)) (by show (wr (A 26) x 0).length = (A 26).length; simp only [wr_len])) (by show (wr (A 21) x 1).length = (A 21).length; simp only [wr_len])) (by show (wr (A 22) x v9).length = (A 22).length; simp only [wr_len])) h5 ⟨by (show 0 ≤ a9); omega, by (show a9 ≤ F 5); omega⟩) (fun r G9 hp9 => ?_)
            obtain ⟨b10, a10, rfl, rfl, hb10, hw10, p10, q10⟩ := hp9
            have p10 : 0 ≤ a10 := p10
            have q10 : a10 ≤ F 5 := q10
            refine R_s (f' := (6, [some (vR 17), some (vR 20), some (vI x)], [vI b10], LAY (u (u (u (u (u (u (u (u A 23 (A 23)) 24 (A 24)) 25 (A 25)) 27 (A 27)) 28 (A 28)) 26 (wr (A 26) x 0)) 21 (wr (A 21) x 1)) 22 (wr (A 22) x v9)) (u (u F 7 v9) 6 a10), 0, 0)) hc47 0 rfl trivial ?_
            refine R_if (t := 17) hc47 rfl rfl (fun (c14 : b10 = 0) => ?_) (fun (c14 : ¬ (b10 = 0)) => ?_)
            · refine R_s (P := True) (f' := (18, [some (vR 17), some (vR 20), some (vI x)], [vI 0], LAY (u (u (u (u (u (u (u (u A 23 (A 23)) 24 (A 24)) 25 (A 25)) 27 (A 27)) 28 (A 28)) 26 (wr (A 26) x 0)) 21 (wr (A 21) x 1)) 22 (wr (A 22) x v9)) (u (u F 7 v9) 6 a10), 0, 0)) hc47 1 rfl trivial ?_
              refine R_retz hc47 rfl rfl (Or.inl rfl) ?_
              refine R_s (f' := (42, [some (vR 17), some (vR 20), some (vI x)], [vI 0], LAY (u (u (u (u (u (u (u (u A 23 (A 23)) 24 (A 24)) 25 (A 25)) 27 (A 27)) 28 (A 28)) 26 (wr (A 26) x 0)) 21 (wr (A 21) x 1)) 22 (wr (A 22) x v9)) (u (u F 7 v9) 6 a10), 0, 0)) hc41 0 rfl trivial ?_
              refine R_if (t := 54) hc41 rfl rfl (fun (_ : 0 = 0) => ?_) (fun (z : ¬ (0 = 0)) => absurd (by decide) z)
              refine R_s (P := True) (f' := (55, [some (vR 17), some (vR 20), some (vI x)], [vI 0], LAY (u (u (u (u (u (u (u (u A 23 (A 23)) 24 (A 24)) 25 (A 25)) 27 (A 27)) 28 (A 28)) 26 (wr (A 26) x 0)) 21 (wr (A 21) x 1)) 22 (wr (A 22) x v9)) (u (u F 7 v9) 6 a10), 0, 0)) hc41 1 rfl trivial ?_
              refine R_retz hc41 rfl rfl (Or.inl rfl) ?_
              refine R_s (f' := (79, [some (vR 17), some (vR 20), some (vI x), some (vI 0), some (vI (nx (A 18) (F 5) (F 6)))], [vI 0], LAY (u (u (u (u (u (u (u (u A 23 (A 23)) 24 (A 24)) 25 (A 25)) 27 (A 27)) 28 (A 28)) 26 (wr (A 26) x 0)) 21 (wr (A 21) x 1)) 22 (wr (A 22) x v9)) (u (u F 7 v9) 6 a10), 0, 0)) hc39 0 rfl trivial ?_
              refine R_if (t := 95) hc39 rfl rfl (fun (_ : 0 = 0) => ?_) (fun (z : ¬ (0 = 0)) => absurd (by decide) z)
              refine R_s (P := True) (f' := (96, [some (vR 17), some (vR 20), some (vI x), some (vI 0), some (vI (nx (A 18) (F 5) (F 6)))], [vI 0], LAY (u (u (u (u (u (u (u (u A 23 (A 23)) 24 (A 24)) 25 (A 25)) 27 (A 27)) 28 (A 28)) 26 (wr (A 26) x 0)) 21 (wr (A 21) x 1)) 22 (wr (A 22) x v9)) (u (u F 7 v9) 6 a10), 0, 0)) hc39 1 rfl trivial ?_
              refine R_retz hc39 rfl rfl (Or.inl rfl) ⟨0, wr (A 21) x 1, wr (A 22) x v9, A 23, A 24, A 25, wr (A 26) x 0, A 27, A 28, a10, v9, rfl, rfl, (by (try simp only [wr_len]); omega), (by (try simp only [wr_len]); omega), (by (try simp only [wr_len]); omega), (by (try simp only [wr_len]); omega), (by (try simp only [wr_len]); omega), (by (try simp only [wr_len]); omega), (by (try simp only [wr_len]); omega), (by (try simp only [wr_len]); omega), by decide, by omega, by omega, fun q hq => by rw [rd_wr_n (by omega) (by omega) (by omega)], fun q hq => by rw [rd_wr_n (by omega) (by omega) (by omega)], fun _ _ => rfl, fun _ _ => rfl, fun _ _ => rfl, fun q hq => by rw [rd_wr_n (by omega) (by omega) (by omega)], fun _ _ => rfl, fun _ _ => rfl, ?_⟩
              have ehw8 : b8 = 1 := by omega
              rw [ehw8] at hw8
              have hw8n : wD (A 18) (F 5) LINE (0, F 6) = (0, a8) := hw8
              have ehw9 : b9 = 1 := by omega
              rw [ehw9] at hw9
              have hw9n : dG (A 18) (F 5) 4 (0, a8) = ((0, a9), v9) := hw9
              have ehw10 : b10 = 0 := by omega
              rw [ehw10] at hw10
              have hw10n : wD (A 18) (F 5) PP (0, a9) = (1, a10) := hw10
              have hk : eK (A 18) (F 5) i (0, F 6) = 1 := by
                unfold eK
                (try dsimp only)
                rw [if_neg (fun z => by omega)]
                rw [if_pos ⟨by omega, by omega⟩]
              have eP : pN (A 18) (F 5) LINE (0, F 6) = ((0, a9), v9) := by unfold pN; rw [hw8n, hw9n]
              have eR : pR (A 18) (F 5) LINE (0, F 6) = ((1, a10), 0) := by
                unfold pR
                rw [eP]
                (try dsimp only)
                rw [hw10n]
                rw [dG_f]
              have eL : pL (A 18) (F 5) (0, F 6) = (1, a10) := by
                unfold pL
                rw [eR]
                (try dsimp only)
                rw [wD_f]
              have eT : tB (A 18) (F 5) i (0, F 6) = (1, a10) := by
                rw [(eN_1 hk).2, eL]
                split
                · exact wD_f _
                · exact wD_f _
              have eS : eN (A 18) (F 5) i (0, F 6) = (1, a10) := by rw [(eN_1 hk).1, eT, tS_f]
              exact ⟨eS, fun z => absurd z (by decide)⟩
            · refine R_s (P := True) (f' := (11, [some (vR 17), some (vR 20), some (vI x)], [vI 2, vR 17], LAY (u (u (u (u (u (u (u (u A 23 (A 23)) 24 (A 24)) 25 (A 25)) 27 (A 27)) 28 (A 28)) 26 (wr (A 26) x 0)) 21 (wr (A 21) x 1)) 22 (wr (A 22) x v9)) (u (u F 7 v9) 6 a10), 0, 0)) hc47 2 rfl trivial ?_
              refine R_cv hc47 rfl rfl (l_numb (A := (u (u (u (u (u (u (u (u A 23 (A 23)) 24 (A 24)) 25 (A 25)) 27 (A 27)) 28 (A 28)) 26 (wr (A 26) x 0)) 21 (wr (A 21) x 1)) 22 (wr (A 22) x v9))) (F := (u (u F 7 v9) 6 a10)) (LENS_u (LENS_u (LENS_u (LENS_u (LENS_u (LENS_u (LENS_u (LENS_u hL (by show (A 23).length = (A 23).length; omega)) (by show (A 24).length = (A 24).length; omega)) (by show (A 25).length = (A 25).length; omega)) (by show (A 27).length = (A 27).length; omega)) (by show (A 28).length = (A 28).length; omega)) (by show (wr (A 26) x 0).length = (A 26).length; simp only [wr_len])) (by show (wr (A 21) x 1).length = (A 21).length; simp only [wr_len])) (by show (wr (A 22) x v9).length = (A 22).length; simp only [wr_len])) h5 ⟨by (show 0 ≤ a10); omega, by (show a10 ≤ F 5); omega⟩ (kk := 2) (by decide) rfl) (fun r G9 hp9 => ?_)
              obtain ⟨b11, a11, v11, rfl, rfl, hb11, hw11, p11, q11, w11⟩ := hp9
              have p11 : 0 ≤ a11 := p11
              have q11 : a11 ≤ F 5 := q11
              refine R_s (f' := (14, [some (vR 17), some (vR 20), some (vI x)], [vI b11], LAY (u (u (u (u (u (u (u (u A 23 (A 23)) 24 (A 24)) 25 (A 25)) 27 (A 27)) 28 (A 28)) 26 (wr (A 26) x 0)) 21 (wr (A 21) x 1)) 22 (wr (A 22) x v9)) (u (u F 6 a11) 7 v11), 0, 0)) hc47 0 rfl trivial ?_
              refine R_if (t := 19) hc47 rfl rfl (fun (c15 : ¬ b11 = 0) => ?_) (fun (c15 : ¬ (¬ b11 = 0)) => ?_)
              · refine R_s (P := (0 ≤ x ∧ x < ((A 23).length : Int)) ∧ True) (f' := (30, [some (vR 17), some (vR 20), some (vI x)], [vI 1], LAY (u (u (u (u (u (u (u (u A 24 (A 24)) 25 (A 25)) 27 (A 27)) 28 (A 28)) 26 (wr (A 26) x 0)) 21 (wr (A 21) x 1)) 22 (wr (A 22) x v9)) 23 (wr (A 23) x v11)) (u (u F 6 a11) 7 v11), 0, 0)) hc47 7 rfl ⟨⟨by omega, by omega⟩, trivial⟩ ?_
                refine R_retz hc47 rfl rfl (Or.inr rfl) ?_
                refine R_s (f' := (42, [some (vR 17), some (vR 20), some (vI x)], [vI 1], LAY (u (u (u (u (u (u (u (u A 24 (A 24)) 25 (A 25)) 27 (A 27)) 28 (A 28)) 26 (wr (A 26) x 0)) 21 (wr (A 21) x 1)) 22 (wr (A 22) x v9)) 23 (wr (A 23) x v11)) (u (u F 6 a11) 7 v11), 0, 0)) hc41 0 rfl trivial ?_
                refine R_if (t := 54) hc41 rfl rfl (fun (z : 1 = 0) => absurd z (by decide)) (fun (_ : ¬ (1 = 0)) => ?_)
                refine R_s (P := True) (f' := (48, [some (vR 17), some (vR 20), some (vI x)], [vS 1, vR 17], LAY (u (u (u (u (u (u (u (u A 24 (A 24)) 25 (A 25)) 27 (A 27)) 28 (A 28)) 26 (wr (A 26) x 0)) 21 (wr (A 21) x 1)) 22 (wr (A 22) x v9)) 23 (wr (A 23) x v11)) (u (u F 6 a11) 7 v11), 0, 0)) hc41 2 rfl trivial ?_
                refine R_cv hc41 rfl rfl (l_word1 (A := (u (u (u (u (u (u (u (u A 24 (A 24)) 25 (A 25)) 27 (A 27)) 28 (A 28)) 26 (wr (A 26) x 0)) 21 (wr (A 21) x 1)) 22 (wr (A 22) x v9)) 23 (wr (A 23) x v11))) (F := (u (u F 6 a11) 7 v11)) (LENS_u (LENS_u (LENS_u (LENS_u (LENS_u (LENS_u (LENS_u (LENS_u hL (by show (A 24).length = (A 24).length; omega)) (by show (A 25).length = (A 25).length; omega)) (by show (A 27).length = (A 27).length; omega)) (by show (A 28).length = (A 28).length; omega)) (by show (wr (A 26) x 0).length = (A 26).length; simp only [wr_len])) (by show (wr (A 21) x 1).length = (A 21).length; simp only [wr_len])) (by show (wr (A 22) x v9).length = (A 22).length; simp only [wr_len])) (by show (wr (A 23) x v11).length = (A 23).length; simp only [wr_len])) h5 ⟨by (show 0 ≤ a11); omega, by (show a11 ≤ F 5); omega⟩) (fun r G9 hp9 => ?_)
                obtain ⟨b12, a12, rfl, rfl, hb12, hw12, p12, q12⟩ := hp9
                have p12 : 0 ≤ a12 := p12
                have q12 : a12 ≤ F 5 := q12
                refine R_s (f' := (51, [some (vR 17), some (vR 20), some (vI x)], [vI b12], LAY (u (u (u (u (u (u (u (u A 24 (A 24)) 25 (A 25)) 27 (A 27)) 28 (A 28)) 26 (wr (A 26) x 0)) 21 (wr (A 21) x 1)) 22 (wr (A 22) x v9)) 23 (wr (A 23) x v11)) (u (u F 7 v11) 6 a12), 0, 0)) hc41 0 rfl trivial ?_
                refine R_if (t := 56) hc41 rfl rfl (fun (c17 : ¬ b12 = 0) => ?_) (fun (c17 : ¬ (¬ b12 = 0)) => ?_)
                · refine R_s (P := True) (f' := (62, [some (vR 17), some (vR 20), some (vI x)], [vR 17, vI x, vR 25], LAY (u (u (u (u (u (u (u (u A 24 (A 24)) 25 (A 25)) 27 (A 27)) 28 (A 28)) 26 (wr (A 26) x 0)) 21 (wr (A 21) x 1)) 22 (wr (A 22) x v9)) 23 (wr (A 23) x v11)) (u (u F 7 v11) 6 a12), 0, 0)) hc41 4 rfl trivial ?_
                  refine R_cv hc41 rfl rfl (l_next (A := (u (u (u (u (u (u (u (u A 24 (A 24)) 25 (A 25)) 27 (A 27)) 28 (A 28)) 26 (wr (A 26) x 0)) 21 (wr (A 21) x 1)) 22 (wr (A 22) x v9)) 23 (wr (A 23) x v11))) (F := (u (u F 7 v11) 6 a12)) (LENS_u (LENS_u (LENS_u (LENS_u (LENS_u (LENS_u (LENS_u (LENS_u hL (by show (A 24).length = (A 24).length; omega)) (by show (A 25).length = (A 25).length; omega)) (by show (A 27).length = (A 27).length; omega)) (by show (A 28).length = (A 28).length; omega)) (by show (wr (A 26) x 0).length = (A 26).length; simp only [wr_len])) (by show (wr (A 21) x 1).length = (A 21).length; simp only [wr_len])) (by show (wr (A 22) x v9).length = (A 22).length; simp only [wr_len])) (by show (wr (A 23) x v11).length = (A 23).length; simp only [wr_len])) h5 ⟨by (show 0 ≤ a12); omega, by (show a12 ≤ F 5); omega⟩) (fun r G9 hp9 => ?_)
                  obtain ⟨e1, rfl⟩ := hp9
                  have e2 : r = some (vI (nx (A 18) (F 5) (a12))) := e1
                  clear e1
                  subst e2
                  refine R_s (f' := (65, [some (vR 17), some (vR 20), some (vI x)], [vI (nx (A 18) (F 5) (a12)), vI x, vR 25], LAY (u (u (u (u (u (u (u (u A 24 (A 24)) 25 (A 25)) 27 (A 27)) 28 (A 28)) 26 (wr (A 26) x 0)) 21 (wr (A 21) x 1)) 22 (wr (A 22) x v9)) 23 (wr (A 23) x v11)) (u (u F 7 v11) 6 a12), 0, 0)) hc41 0 rfl trivial ?_
                  refine R_s (P := True) (f' := (67, [some (vR 17), some (vR 20), some (vI x)], [vI 104, vI (nx (A 18) (F 5) (a12)), vI x, vR 25], LAY (u (u (u (u (u (u (u (u A 24 (A 24)) 25 (A 25)) 27 (A 27)) 28 (A 28)) 26 (wr (A 26) x 0)) 21 (wr (A 21) x 1)) 22 (wr (A 22) x v9)) 23 (wr (A 23) x v11)) (u (u F 7 v11) 6 a12), 0, 0)) hc41 1 rfl trivial ?_
                  refine R_ic (t := 74) hc41 rfl rfl (fun (c18 : ¬ nx (A 18) (F 5) (a12) = 104) => ?_) (fun (c18 : ¬ (¬ nx (A 18) (F 5) (a12) = 104)) => ?_)
                  · refine R_s (P := ((0 ≤ x ∧ x < ((A 25).length : Int)) ∧ (0 = 0 ∨ 0 = 1)) ∧ (0 ≤ x ∧ x < ((wr (A 25) x 0).length : Int)) ∧ True) (f' := (83, [some (vR 17), some (vR 20), some (vI x)], [vI (rd (wr (A 25) x 0) x), vR 17], LAY (u (u (u (u (u (u (u (u A 24 (A 24)) 27 (A 27)) 28 (A 28)) 26 (wr (A 26) x 0)) 21 (wr (A 21) x 1)) 22 (wr (A 22) x v9)) 23 (wr (A 23) x v11)) 25 (wr (A 25) x 0)) (u (u F 7 v11) 6 a12), 0, 0)) hc41 7 rfl ⟨⟨⟨by omega, by omega⟩, by omega⟩, ⟨by omega, by simp only [wr_len]; omega⟩, trivial⟩ ?_
                    refine R_if (t := 91) hc41 rfl rfl (fun (_ : rd (wr (A 25) x 0) x = 0) => ?_) (fun (z : ¬ (rd (wr (A 25) x 0) x = 0)) => absurd (show rd (wr (A 25) x 0) x = 0 by omega) z)
                    refine R_s (P := True) (f' := (93, [some (vR 17), some (vR 20), some (vI x)], [vS 10, vR 17], LAY (u (u (u (u (u (u (u (u A 24 (A 24)) 27 (A 27)) 28 (A 28)) 26 (wr (A 26) x 0)) 21 (wr (A 21) x 1)) 22 (wr (A 22) x v9)) 23 (wr (A 23) x v11)) 25 (wr (A 25) x 0)) (u (u F 7 v11) 6 a12), 0, 0)) hc41 1 rfl trivial ?_
                    refine R_cv hc41 rfl rfl (l_word10 (A := (u (u (u (u (u (u (u (u A 24 (A 24)) 27 (A 27)) 28 (A 28)) 26 (wr (A 26) x 0)) 21 (wr (A 21) x 1)) 22 (wr (A 22) x v9)) 23 (wr (A 23) x v11)) 25 (wr (A 25) x 0))) (F := (u (u F 7 v11) 6 a12)) (LENS_u (LENS_u (LENS_u (LENS_u (LENS_u (LENS_u (LENS_u (LENS_u hL (by show (A 24).length = (A 24).length; omega)) (by show (A 27).length = (A 27).length; omega)) (by show (A 28).length = (A 28).length; omega)) (by show (wr (A 26) x 0).length = (A 26).length; simp only [wr_len])) (by show (wr (A 21) x 1).length = (A 21).length; simp only [wr_len])) (by show (wr (A 22) x v9).length = (A 22).length; simp only [wr_len])) (by show (wr (A 23) x v11).length = (A 23).length; simp only [wr_len])) (by show (wr (A 25) x 0).length = (A 25).length; simp only [wr_len])) h5 ⟨by (show 0 ≤ a12); omega, by (show a12 ≤ F 5); omega⟩) (fun r G9 hp9 => ?_)
                    obtain ⟨b13, a13, rfl, rfl, hb13, hw13, p13, q13⟩ := hp9
                    have p13 : 0 ≤ a13 := p13
                    have q13 : a13 ≤ F 5 := q13
                    refine R_s (f' := (96, [some (vR 17), some (vR 20), some (vI x)], [vI b13], LAY (u (u (u (u (u (u (u (u A 24 (A 24)) 27 (A 27)) 28 (A 28)) 26 (wr (A 26) x 0)) 21 (wr (A 21) x 1)) 22 (wr (A 22) x v9)) 23 (wr (A 23) x v11)) 25 (wr (A 25) x 0)) (u (u F 7 v11) 6 a13), 0, 0)) hc41 0 rfl trivial ?_
                    refine R_retz hc41 rfl rfl (by omega) ?_
                    refine R_s (f' := (79, [some (vR 17), some (vR 20), some (vI x), some (vI 0), some (vI (nx (A 18) (F 5) (F 6)))], [vI b13], LAY (u (u (u (u (u (u (u (u A 24 (A 24)) 27 (A 27)) 28 (A 28)) 26 (wr (A 26) x 0)) 21 (wr (A 21) x 1)) 22 (wr (A 22) x v9)) 23 (wr (A 23) x v11)) 25 (wr (A 25) x 0)) (u (u F 7 v11) 6 a13), 0, 0)) hc39 0 rfl trivial ?_
                    refine R_if (t := 95) hc39 rfl rfl (fun (c20 : b13 = 0) => ?_) (fun (c20 : ¬ (b13 = 0)) => ?_)
                    · refine R_s (P := True) (f' := (96, [some (vR 17), some (vR 20), some (vI x), some (vI 0), some (vI (nx (A 18) (F 5) (F 6)))], [vI 0], LAY (u (u (u (u (u (u (u (u A 24 (A 24)) 27 (A 27)) 28 (A 28)) 26 (wr (A 26) x 0)) 21 (wr (A 21) x 1)) 22 (wr (A 22) x v9)) 23 (wr (A 23) x v11)) 25 (wr (A 25) x 0)) (u (u F 7 v11) 6 a13), 0, 0)) hc39 1 rfl trivial ?_
                      refine R_retz hc39 rfl rfl (Or.inl rfl) ⟨0, wr (A 21) x 1, wr (A 22) x v9, wr (A 23) x v11, A 24, wr (A 25) x 0, wr (A 26) x 0, A 27, A 28, a13, v11, rfl, rfl, (by (try simp only [wr_len]); omega), (by (try simp only [wr_len]); omega), (by (try simp only [wr_len]); omega), (by (try simp only [wr_len]); omega), (by (try simp only [wr_len]); omega), (by (try simp only [wr_len]); omega), (by (try simp only [wr_len]); omega), (by (try simp only [wr_len]); omega), by decide, by omega, by omega, fun q hq => by rw [rd_wr_n (by omega) (by omega) (by omega)], fun q hq => by rw [rd_wr_n (by omega) (by omega) (by omega)], fun q hq => by rw [rd_wr_n (by omega) (by omega) (by omega)], fun _ _ => rfl, fun q hq => by rw [rd_wr_n (by omega) (by omega) (by omega)], fun q hq => by rw [rd_wr_n (by omega) (by omega) (by omega)], fun _ _ => rfl, fun _ _ => rfl, ?_⟩
                      have ehw8 : b8 = 1 := by omega
                      rw [ehw8] at hw8
                      have hw8n : wD (A 18) (F 5) LINE (0, F 6) = (0, a8) := hw8
                      have ehw9 : b9 = 1 := by omega
                      rw [ehw9] at hw9
                      have hw9n : dG (A 18) (F 5) 4 (0, a8) = ((0, a9), v9) := hw9
                      have ehw10 : b10 = 1 := by omega
                      rw [ehw10] at hw10
                      have hw10n : wD (A 18) (F 5) PP (0, a9) = (0, a10) := hw10
                      have ehw11 : b11 = 1 := by omega
                      rw [ehw11] at hw11
                      have hw11n : dG (A 18) (F 5) 2 (0, a10) = ((0, a11), v11) := hw11
                      have ehw12 : b12 = 1 := by omega
                      rw [ehw12] at hw12
                      have hw12n : wD (A 18) (F 5) SPC (0, a11) = (0, a12) := hw12
                      have ehw13 : b13 = 0 := by omega
                      rw [ehw13] at hw13
                      have hw13n : wD (A 18) (F 5) STEM (0, a12) = (1, a13) := hw13
                      have hk : eK (A 18) (F 5) i (0, F 6) = 1 := by
                        unfold eK
                        (try dsimp only)
                        rw [if_neg (fun z => by omega)]
                        rw [if_pos ⟨by omega, by omega⟩]
                      have eP : pN (A 18) (F 5) LINE (0, F 6) = ((0, a9), v9) := by unfold pN; rw [hw8n, hw9n]
                      have eR : pR (A 18) (F 5) LINE (0, F 6) = ((0, a11), v11) := by
                        unfold pR
                        rw [eP]
                        (try dsimp only)
                        rw [hw10n]
                        rw [hw11n]
                      have eL : pL (A 18) (F 5) (0, F 6) = (0, a12) := by
                        unfold pL
                        rw [eR]
                        (try dsimp only)
                        rw [hw12n]
                      have eT : tB (A 18) (F 5) i (0, F 6) = (1, a13) := by
                        rw [(eN_1 hk).2, eL]
                        (try dsimp only)
                        by_cases z : nx (A 18) (F 5) (a12) = 115
                        · rw [if_pos z, hw13n]
                        · have z1 : wD (A 18) (F 5) STEM (0, a12) = (1, a12) := wD_no (c := 115) (cs := [116, 101, 109]) z
                          have z2 : wD (A 18) (F 5) HEADS (0, a12) = (1, a12) := wD_no (c := 104) (cs := [101, 97, 100, 115]) (by omega)
                          rw [if_neg z, z2, ← z1, hw13n]
                      have eS : eN (A 18) (F 5) i (0, F 6) = (1, a13) := by rw [(eN_1 hk).1, eT, tS_f]
                      exact ⟨eS, fun z => absurd z (by decide)⟩
                    · refine R_s (P := True) (f' := (85, [some (vR 17), some (vR 20), some (vI x), some (vI 0), some (vI (nx (A 18) (F 5) (F 6)))], [vI x, vR 20, vR 17], LAY (u (u (u (u (u (u (u (u A 24 (A 24)) 27 (A 27)) 28 (A 28)) 26 (wr (A 26) x 0)) 21 (wr (A 21) x 1)) 22 (wr (A 22) x v9)) 23 (wr (A 23) x v11)) 25 (wr (A 25) x 0)) (u (u F 7 v11) 6 a13), 0, 0)) hc39 3 rfl trivial ?_
                      refine R_cv hc39 rfl rfl (l_rtest0 (A := (u (u (u (u (u (u (u (u A 24 (A 24)) 27 (A 27)) 28 (A 28)) 26 (wr (A 26) x 0)) 21 (wr (A 21) x 1)) 22 (wr (A 22) x v9)) 23 (wr (A 23) x v11)) 25 (wr (A 25) x 0))) (F := (u (u F 7 v11) 6 a13)) (LENS_u (LENS_u (LENS_u (LENS_u (LENS_u (LENS_u (LENS_u (LENS_u hL (by show (A 24).length = (A 24).length; omega)) (by show (A 27).length = (A 27).length; omega)) (by show (A 28).length = (A 28).length; omega)) (by show (wr (A 26) x 0).length = (A 26).length; simp only [wr_len])) (by show (wr (A 21) x 1).length = (A 21).length; simp only [wr_len])) (by show (wr (A 22) x v9).length = (A 22).length; simp only [wr_len])) (by show (wr (A 23) x v11).length = (A 23).length; simp only [wr_len])) (by show (wr (A 25) x 0).length = (A 25).length; simp only [wr_len])) h5 ⟨by (show 0 ≤ a13); omega, by (show a13 ≤ F 5); omega⟩ ex hi (by show rd (wr (A 26) x 0) i = 0; rw [← ex]; exact rd_wr_s (by omega) (by omega))) (fun r G9 hp9 => ?_)
                      obtain ⟨b14, s5_14, s6_14, s7_14, a14, v14, rfl, rfl, l14_5, l14_6, l14_7, hb14, p14, q14, kp14_5, kp14_6, kp14_7, hw14, hv14⟩ := hp9
                      have q14 : a14 ≤ F 5 := q14
                      have kp14_5 : ∀ q : Nat, q ≠ i → rd s5_14 q = rd (wr (A 26) x 0) q := kp14_5
                      have kp14_6 : ∀ q : Nat, q ≠ i → rd s6_14 q = rd (A 27) q := kp14_6
                      have kp14_7 : ∀ q : Nat, q ≠ i → rd s7_14 q = rd (A 28) q := kp14_7
                      refine R_s (f' := (88, [some (vR 17), some (vR 20), some (vI x), some (vI 0), some (vI (nx (A 18) (F 5) (F 6)))], [vI b14], LAY (u (u (u (u (u (u (u (u A 24 (A 24)) 21 (wr (A 21) x 1)) 22 (wr (A 22) x v9)) 23 (wr (A 23) x v11)) 25 (wr (A 25) x 0)) 26 s5_14) 27 s6_14) 28 s7_14) (u (u F 6 a14) 7 v14), 0, 0)) hc39 0 rfl trivial ?_
                      refine R_if (t := 95) hc39 rfl rfl (fun (c21 : b14 = 0) => ?_) (fun (c21 : ¬ (b14 = 0)) => ?_)
                      · refine R_s (P := True) (f' := (96, [some (vR 17), some (vR 20), some (vI x), some (vI 0), some (vI (nx (A 18) (F 5) (F 6)))], [vI 0], LAY (u (u (u (u (u (u (u (u A 24 (A 24)) 21 (wr (A 21) x 1)) 22 (wr (A 22) x v9)) 23 (wr (A 23) x v11)) 25 (wr (A 25) x 0)) 26 s5_14) 27 s6_14) 28 s7_14) (u (u F 6 a14) 7 v14), 0, 0)) hc39 1 rfl trivial ?_
                        refine R_retz hc39 rfl rfl (Or.inl rfl) ⟨0, wr (A 21) x 1, wr (A 22) x v9, wr (A 23) x v11, A 24, wr (A 25) x 0, s5_14, s6_14, s7_14, a14, v14, rfl, rfl, (by (try simp only [wr_len]); omega), (by (try simp only [wr_len]); omega), (by (try simp only [wr_len]); omega), (by (try simp only [wr_len]); omega), (by (try simp only [wr_len]); omega), (by (try simp only [wr_len]); omega), (by (try simp only [wr_len]); omega), (by (try simp only [wr_len]); omega), by decide, by omega, by omega, fun q hq => by rw [rd_wr_n (by omega) (by omega) (by omega)], fun q hq => by rw [rd_wr_n (by omega) (by omega) (by omega)], fun q hq => by rw [rd_wr_n (by omega) (by omega) (by omega)], fun _ _ => rfl, fun q hq => by rw [rd_wr_n (by omega) (by omega) (by omega)], fun q hq => by rw [kp14_5 q hq, rd_wr_n (by omega) (by omega) (by omega)], fun q hq => by rw [kp14_6 q hq], fun q hq => by rw [kp14_7 q hq], ?_⟩
                        have ehw8 : b8 = 1 := by omega
                        rw [ehw8] at hw8
                        have hw8n : wD (A 18) (F 5) LINE (0, F 6) = (0, a8) := hw8
                        have ehw9 : b9 = 1 := by omega
                        rw [ehw9] at hw9
                        have hw9n : dG (A 18) (F 5) 4 (0, a8) = ((0, a9), v9) := hw9
                        have ehw10 : b10 = 1 := by omega
                        rw [ehw10] at hw10
                        have hw10n : wD (A 18) (F 5) PP (0, a9) = (0, a10) := hw10
                        have ehw11 : b11 = 1 := by omega
                        rw [ehw11] at hw11
                        have hw11n : dG (A 18) (F 5) 2 (0, a10) = ((0, a11), v11) := hw11
                        have ehw12 : b12 = 1 := by omega
                        rw [ehw12] at hw12
                        have hw12n : wD (A 18) (F 5) SPC (0, a11) = (0, a12) := hw12
                        have ehw13 : b13 = 1 := by omega
                        rw [ehw13] at hw13
                        have hw13n : wD (A 18) (F 5) STEM (0, a12) = (0, a13) := hw13
                        have ehw14 : b14 = 0 := by omega
                        rw [ehw14] at hw14
                        have hw14n : tS (A 18) (F 5) (0, a13) = (1, a14) := hw14
                        have hk : eK (A 18) (F 5) i (0, F 6) = 1 := by
                          unfold eK
                          (try dsimp only)
                          rw [if_neg (fun z => by omega)]
                          rw [if_pos ⟨by omega, by omega⟩]
                        have eP : pN (A 18) (F 5) LINE (0, F 6) = ((0, a9), v9) := by unfold pN; rw [hw8n, hw9n]
                        have eR : pR (A 18) (F 5) LINE (0, F 6) = ((0, a11), v11) := by
                          unfold pR
                          rw [eP]
                          (try dsimp only)
                          rw [hw10n]
                          rw [hw11n]
                        have eL : pL (A 18) (F 5) (0, F 6) = (0, a12) := by
                          unfold pL
                          rw [eR]
                          (try dsimp only)
                          rw [hw12n]
                        have hst : nx (A 18) (F 5) (a12) = 115 := wD_hd (cs := [116, 101, 109]) hw13n
                        have eT : tB (A 18) (F 5) i (0, F 6) = (0, a13) := by
                          rw [(eN_1 hk).2, eL]
                          (try dsimp only)
                          rw [if_pos hst, hw13n]
                        have eS : eN (A 18) (F 5) i (0, F 6) = (1, a14) := by rw [(eN_1 hk).1, eT]; exact hw14n
                        exact ⟨eS, fun z => absurd z (by decide)⟩
                      · refine R_s (P := True) (f' := (96, [some (vR 17), some (vR 20), some (vI x), some (vI 0), some (vI (nx (A 18) (F 5) (F 6)))], [vI 1], LAY (u (u (u (u (u (u (u (u A 24 (A 24)) 21 (wr (A 21) x 1)) 22 (wr (A 22) x v9)) 23 (wr (A 23) x v11)) 25 (wr (A 25) x 0)) 26 s5_14) 27 s6_14) 28 s7_14) (u (u F 6 a14) 7 v14), 0, 0)) hc39 2 rfl trivial ?_
                        refine R_retz hc39 rfl rfl (Or.inr rfl) ⟨1, wr (A 21) x 1, wr (A 22) x v9, wr (A 23) x v11, A 24, wr (A 25) x 0, s5_14, s6_14, s7_14, a14, v14, rfl, rfl, (by (try simp only [wr_len]); omega), (by (try simp only [wr_len]); omega), (by (try simp only [wr_len]); omega), (by (try simp only [wr_len]); omega), (by (try simp only [wr_len]); omega), (by (try simp only [wr_len]); omega), (by (try simp only [wr_len]); omega), (by (try simp only [wr_len]); omega), by decide, by omega, by omega, fun q hq => by rw [rd_wr_n (by omega) (by omega) (by omega)], fun q hq => by rw [rd_wr_n (by omega) (by omega) (by omega)], fun q hq => by rw [rd_wr_n (by omega) (by omega) (by omega)], fun _ _ => rfl, fun q hq => by rw [rd_wr_n (by omega) (by omega) (by omega)], fun q hq => by rw [kp14_5 q hq, rd_wr_n (by omega) (by omega) (by omega)], fun q hq => by rw [kp14_6 q hq], fun q hq => by rw [kp14_7 q hq], ?_⟩
                        have ehw8 : b8 = 1 := by omega
                        rw [ehw8] at hw8
                        have hw8n : wD (A 18) (F 5) LINE (0, F 6) = (0, a8) := hw8
                        have ehw9 : b9 = 1 := by omega
                        rw [ehw9] at hw9
                        have hw9n : dG (A 18) (F 5) 4 (0, a8) = ((0, a9), v9) := hw9
                        have ehw10 : b10 = 1 := by omega
                        rw [ehw10] at hw10
                        have hw10n : wD (A 18) (F 5) PP (0, a9) = (0, a10) := hw10
                        have ehw11 : b11 = 1 := by omega
                        rw [ehw11] at hw11
                        have hw11n : dG (A 18) (F 5) 2 (0, a10) = ((0, a11), v11) := hw11
                        have ehw12 : b12 = 1 := by omega
                        rw [ehw12] at hw12
                        have hw12n : wD (A 18) (F 5) SPC (0, a11) = (0, a12) := hw12
                        have ehw13 : b13 = 1 := by omega
                        rw [ehw13] at hw13
                        have hw13n : wD (A 18) (F 5) STEM (0, a12) = (0, a13) := hw13
                        have ehw14 : b14 = 1 := by omega
                        rw [ehw14] at hw14
                        have hw14n : tS (A 18) (F 5) (0, a13) = (0, a14) := hw14
                        have hk : eK (A 18) (F 5) i (0, F 6) = 1 := by
                          unfold eK
                          (try dsimp only)
                          rw [if_neg (fun z => by omega)]
                          rw [if_pos ⟨by omega, by omega⟩]
                        have eP : pN (A 18) (F 5) LINE (0, F 6) = ((0, a9), v9) := by unfold pN; rw [hw8n, hw9n]
                        have eR : pR (A 18) (F 5) LINE (0, F 6) = ((0, a11), v11) := by
                          unfold pR
                          rw [eP]
                          (try dsimp only)
                          rw [hw10n]
                          rw [hw11n]
                        have eL : pL (A 18) (F 5) (0, F 6) = (0, a12) := by
                          unfold pL
                          rw [eR]
                          (try dsimp only)
                          rw [hw12n]
                        have hst : nx (A 18) (F 5) (a12) = 115 := wD_hd (cs := [116, 101, 109]) hw13n
                        have eT : tB (A 18) (F 5) i (0, F 6) = (0, a13) := by
                          rw [(eN_1 hk).2, eL]
                          (try dsimp only)
                          rw [if_pos hst, hw13n]
                        have eS : eN (A 18) (F 5) i (0, F 6) = (0, a14) := by rw [(eN_1 hk).1, eT]; exact hw14n
                        have r0 : rd (wr (A 21) x 1) i = 1 := by rw [← ex]; exact rd_wr_s (by omega) (by (try simp only [wr_len]); omega)
                        have r1 : rd (wr (A 22) x v9) i = v9 := by rw [← ex]; exact rd_wr_s (by omega) (by (try simp only [wr_len]); omega)
                        have r2 : rd (wr (A 23) x v11) i = v11 := by rw [← ex]; exact rd_wr_s (by omega) (by (try simp only [wr_len]); omega)
                        have r4 : rd (wr (A 25) x 0) i = 0 := by rw [← ex]; exact rd_wr_s (by omega) (by (try simp only [wr_len]); omega)
                        exact ⟨eS, fun _ => ⟨by rw [r0, hk], fun z => absurd z (by rw [r0]; decide), fun _ => ⟨by rw [r1, eP], by rw [r2, eR], by rw [r4, eL]; (try dsimp only); rw [if_pos hst]⟩, fun z => absurd z (by rw [r0]; decide), fun z => absurd z (by rw [r0]; decide), fun _ => by
                          rw [eT]
                          have z := hv14 (by omega)
                          exact ⟨z.1, z.2.imp (fun w => by rw [z.1, w]; rfl) id⟩⟩⟩
                  · refine R_s (P := ((0 ≤ x ∧ x < ((A 25).length : Int)) ∧ (1 = 0 ∨ 1 = 1)) ∧ (0 ≤ x ∧ x < ((wr (A 25) x 1).length : Int)) ∧ True) (f' := (83, [some (vR 17), some (vR 20), some (vI x)], [vI (rd (wr (A 25) x 1) x), vR 17], LAY (u (u (u (u (u (u (u (u A 24 (A 24)) 27 (A 27)) 28 (A 28)) 26 (wr (A 26) x 0)) 21 (wr (A 21) x 1)) 22 (wr (A 22) x v9)) 23 (wr (A 23) x v11)) 25 (wr (A 25) x 1)) (u (u F 7 v11) 6 a12), 0, 0)) hc41 8 rfl ⟨⟨⟨by omega, by omega⟩, by omega⟩, ⟨by omega, by simp only [wr_len]; omega⟩, trivial⟩ ?_
                    refine R_if (t := 91) hc41 rfl rfl (fun (z : rd (wr (A 25) x 1) x = 0) => absurd z (by omega)) (fun (_ : ¬ (rd (wr (A 25) x 1) x = 0)) => ?_)
                    refine R_s (P := True) (f' := (93, [some (vR 17), some (vR 20), some (vI x)], [vS 9, vR 17], LAY (u (u (u (u (u (u (u (u A 24 (A 24)) 27 (A 27)) 28 (A 28)) 26 (wr (A 26) x 0)) 21 (wr (A 21) x 1)) 22 (wr (A 22) x v9)) 23 (wr (A 23) x v11)) 25 (wr (A 25) x 1)) (u (u F 7 v11) 6 a12), 0, 0)) hc41 2 rfl trivial ?_
                    refine R_cv hc41 rfl rfl (l_word9 (A := (u (u (u (u (u (u (u (u A 24 (A 24)) 27 (A 27)) 28 (A 28)) 26 (wr (A 26) x 0)) 21 (wr (A 21) x 1)) 22 (wr (A 22) x v9)) 23 (wr (A 23) x v11)) 25 (wr (A 25) x 1))) (F := (u (u F 7 v11) 6 a12)) (LENS_u (LENS_u (LENS_u (LENS_u (LENS_u (LENS_u (LENS_u (LENS_u hL (by show (A 24).length = (A 24).length; omega)) (by show (A 27).length = (A 27).length; omega)) (by show (A 28).length = (A 28).length; omega)) (by show (wr (A 26) x 0).length = (A 26).length; simp only [wr_len])) (by show (wr (A 21) x 1).length = (A 21).length; simp only [wr_len])) (by show (wr (A 22) x v9).length = (A 22).length; simp only [wr_len])) (by show (wr (A 23) x v11).length = (A 23).length; simp only [wr_len])) (by show (wr (A 25) x 1).length = (A 25).length; simp only [wr_len])) h5 ⟨by (show 0 ≤ a12); omega, by (show a12 ≤ F 5); omega⟩) (fun r G9 hp9 => ?_)
                    obtain ⟨b15, a15, rfl, rfl, hb15, hw15, p15, q15⟩ := hp9
                    have p15 : 0 ≤ a15 := p15
                    have q15 : a15 ≤ F 5 := q15
                    refine R_s (f' := (96, [some (vR 17), some (vR 20), some (vI x)], [vI b15], LAY (u (u (u (u (u (u (u (u A 24 (A 24)) 27 (A 27)) 28 (A 28)) 26 (wr (A 26) x 0)) 21 (wr (A 21) x 1)) 22 (wr (A 22) x v9)) 23 (wr (A 23) x v11)) 25 (wr (A 25) x 1)) (u (u F 7 v11) 6 a15), 0, 0)) hc41 0 rfl trivial ?_
                    refine R_retz hc41 rfl rfl (by omega) ?_
                    refine R_s (f' := (79, [some (vR 17), some (vR 20), some (vI x), some (vI 0), some (vI (nx (A 18) (F 5) (F 6)))], [vI b15], LAY (u (u (u (u (u (u (u (u A 24 (A 24)) 27 (A 27)) 28 (A 28)) 26 (wr (A 26) x 0)) 21 (wr (A 21) x 1)) 22 (wr (A 22) x v9)) 23 (wr (A 23) x v11)) 25 (wr (A 25) x 1)) (u (u F 7 v11) 6 a15), 0, 0)) hc39 0 rfl trivial ?_
                    refine R_if (t := 95) hc39 rfl rfl (fun (c21 : b15 = 0) => ?_) (fun (c21 : ¬ (b15 = 0)) => ?_)
                    · refine R_s (P := True) (f' := (96, [some (vR 17), some (vR 20), some (vI x), some (vI 0), some (vI (nx (A 18) (F 5) (F 6)))], [vI 0], LAY (u (u (u (u (u (u (u (u A 24 (A 24)) 27 (A 27)) 28 (A 28)) 26 (wr (A 26) x 0)) 21 (wr (A 21) x 1)) 22 (wr (A 22) x v9)) 23 (wr (A 23) x v11)) 25 (wr (A 25) x 1)) (u (u F 7 v11) 6 a15), 0, 0)) hc39 1 rfl trivial ?_
                      refine R_retz hc39 rfl rfl (Or.inl rfl) ⟨0, wr (A 21) x 1, wr (A 22) x v9, wr (A 23) x v11, A 24, wr (A 25) x 1, wr (A 26) x 0, A 27, A 28, a15, v11, rfl, rfl, (by (try simp only [wr_len]); omega), (by (try simp only [wr_len]); omega), (by (try simp only [wr_len]); omega), (by (try simp only [wr_len]); omega), (by (try simp only [wr_len]); omega), (by (try simp only [wr_len]); omega), (by (try simp only [wr_len]); omega), (by (try simp only [wr_len]); omega), by decide, by omega, by omega, fun q hq => by rw [rd_wr_n (by omega) (by omega) (by omega)], fun q hq => by rw [rd_wr_n (by omega) (by omega) (by omega)], fun q hq => by rw [rd_wr_n (by omega) (by omega) (by omega)], fun _ _ => rfl, fun q hq => by rw [rd_wr_n (by omega) (by omega) (by omega)], fun q hq => by rw [rd_wr_n (by omega) (by omega) (by omega)], fun _ _ => rfl, fun _ _ => rfl, ?_⟩
                      have ehw8 : b8 = 1 := by omega
                      rw [ehw8] at hw8
                      have hw8n : wD (A 18) (F 5) LINE (0, F 6) = (0, a8) := hw8
                      have ehw9 : b9 = 1 := by omega
                      rw [ehw9] at hw9
                      have hw9n : dG (A 18) (F 5) 4 (0, a8) = ((0, a9), v9) := hw9
                      have ehw10 : b10 = 1 := by omega
                      rw [ehw10] at hw10
                      have hw10n : wD (A 18) (F 5) PP (0, a9) = (0, a10) := hw10
                      have ehw11 : b11 = 1 := by omega
                      rw [ehw11] at hw11
                      have hw11n : dG (A 18) (F 5) 2 (0, a10) = ((0, a11), v11) := hw11
                      have ehw12 : b12 = 1 := by omega
                      rw [ehw12] at hw12
                      have hw12n : wD (A 18) (F 5) SPC (0, a11) = (0, a12) := hw12
                      have ehw15 : b15 = 0 := by omega
                      rw [ehw15] at hw15
                      have hw15n : wD (A 18) (F 5) HEADS (0, a12) = (1, a15) := hw15
                      have hk : eK (A 18) (F 5) i (0, F 6) = 1 := by
                        unfold eK
                        (try dsimp only)
                        rw [if_neg (fun z => by omega)]
                        rw [if_pos ⟨by omega, by omega⟩]
                      have eP : pN (A 18) (F 5) LINE (0, F 6) = ((0, a9), v9) := by unfold pN; rw [hw8n, hw9n]
                      have eR : pR (A 18) (F 5) LINE (0, F 6) = ((0, a11), v11) := by
                        unfold pR
                        rw [eP]
                        (try dsimp only)
                        rw [hw10n]
                        rw [hw11n]
                      have eL : pL (A 18) (F 5) (0, F 6) = (0, a12) := by
                        unfold pL
                        rw [eR]
                        (try dsimp only)
                        rw [hw12n]
                      have eT : tB (A 18) (F 5) i (0, F 6) = (1, a15) := by
                        rw [(eN_1 hk).2, eL]
                        (try dsimp only)
                        rw [if_neg (by omega), hw15n]
                      have eS : eN (A 18) (F 5) i (0, F 6) = (1, a15) := by rw [(eN_1 hk).1, eT, tS_f]
                      exact ⟨eS, fun z => absurd z (by decide)⟩
                    · refine R_s (P := True) (f' := (85, [some (vR 17), some (vR 20), some (vI x), some (vI 0), some (vI (nx (A 18) (F 5) (F 6)))], [vI x, vR 20, vR 17], LAY (u (u (u (u (u (u (u (u A 24 (A 24)) 27 (A 27)) 28 (A 28)) 26 (wr (A 26) x 0)) 21 (wr (A 21) x 1)) 22 (wr (A 22) x v9)) 23 (wr (A 23) x v11)) 25 (wr (A 25) x 1)) (u (u F 7 v11) 6 a15), 0, 0)) hc39 3 rfl trivial ?_
                      refine R_cv hc39 rfl rfl (l_rtest0 (A := (u (u (u (u (u (u (u (u A 24 (A 24)) 27 (A 27)) 28 (A 28)) 26 (wr (A 26) x 0)) 21 (wr (A 21) x 1)) 22 (wr (A 22) x v9)) 23 (wr (A 23) x v11)) 25 (wr (A 25) x 1))) (F := (u (u F 7 v11) 6 a15)) (LENS_u (LENS_u (LENS_u (LENS_u (LENS_u (LENS_u (LENS_u (LENS_u hL (by show (A 24).length = (A 24).length; omega)) (by show (A 27).length = (A 27).length; omega)) (by show (A 28).length = (A 28).length; omega)) (by show (wr (A 26) x 0).length = (A 26).length; simp only [wr_len])) (by show (wr (A 21) x 1).length = (A 21).length; simp only [wr_len])) (by show (wr (A 22) x v9).length = (A 22).length; simp only [wr_len])) (by show (wr (A 23) x v11).length = (A 23).length; simp only [wr_len])) (by show (wr (A 25) x 1).length = (A 25).length; simp only [wr_len])) h5 ⟨by (show 0 ≤ a15); omega, by (show a15 ≤ F 5); omega⟩ ex hi (by show rd (wr (A 26) x 0) i = 0; rw [← ex]; exact rd_wr_s (by omega) (by omega))) (fun r G9 hp9 => ?_)
                      obtain ⟨b16, s5_16, s6_16, s7_16, a16, v16, rfl, rfl, l16_5, l16_6, l16_7, hb16, p16, q16, kp16_5, kp16_6, kp16_7, hw16, hv16⟩ := hp9
                      have q16 : a16 ≤ F 5 := q16
                      have kp16_5 : ∀ q : Nat, q ≠ i → rd s5_16 q = rd (wr (A 26) x 0) q := kp16_5
                      have kp16_6 : ∀ q : Nat, q ≠ i → rd s6_16 q = rd (A 27) q := kp16_6
                      have kp16_7 : ∀ q : Nat, q ≠ i → rd s7_16 q = rd (A 28) q := kp16_7
                      refine R_s (f' := (88, [some (vR 17), some (vR 20), some (vI x), some (vI 0), some (vI (nx (A 18) (F 5) (F 6)))], [vI b16], LAY (u (u (u (u (u (u (u (u A 24 (A 24)) 21 (wr (A 21) x 1)) 22 (wr (A 22) x v9)) 23 (wr (A 23) x v11)) 25 (wr (A 25) x 1)) 26 s5_16) 27 s6_16) 28 s7_16) (u (u F 6 a16) 7 v16), 0, 0)) hc39 0 rfl trivial ?_
                      refine R_if (t := 95) hc39 rfl rfl (fun (c22 : b16 = 0) => ?_) (fun (c22 : ¬ (b16 = 0)) => ?_)
                      · refine R_s (P := True) (f' := (96, [some (vR 17), some (vR 20), some (vI x), some (vI 0), some (vI (nx (A 18) (F 5) (F 6)))], [vI 0], LAY (u (u (u (u (u (u (u (u A 24 (A 24)) 21 (wr (A 21) x 1)) 22 (wr (A 22) x v9)) 23 (wr (A 23) x v11)) 25 (wr (A 25) x 1)) 26 s5_16) 27 s6_16) 28 s7_16) (u (u F 6 a16) 7 v16), 0, 0)) hc39 1 rfl trivial ?_
                        refine R_retz hc39 rfl rfl (Or.inl rfl) ⟨0, wr (A 21) x 1, wr (A 22) x v9, wr (A 23) x v11, A 24, wr (A 25) x 1, s5_16, s6_16, s7_16, a16, v16, rfl, rfl, (by (try simp only [wr_len]); omega), (by (try simp only [wr_len]); omega), (by (try simp only [wr_len]); omega), (by (try simp only [wr_len]); omega), (by (try simp only [wr_len]); omega), (by (try simp only [wr_len]); omega), (by (try simp only [wr_len]); omega), (by (try simp only [wr_len]); omega), by decide, by omega, by omega, fun q hq => by rw [rd_wr_n (by omega) (by omega) (by omega)], fun q hq => by rw [rd_wr_n (by omega) (by omega) (by omega)], fun q hq => by rw [rd_wr_n (by omega) (by omega) (by omega)], fun _ _ => rfl, fun q hq => by rw [rd_wr_n (by omega) (by omega) (by omega)], fun q hq => by rw [kp16_5 q hq, rd_wr_n (by omega) (by omega) (by omega)], fun q hq => by rw [kp16_6 q hq], fun q hq => by rw [kp16_7 q hq], ?_⟩
                        have ehw8 : b8 = 1 := by omega
                        rw [ehw8] at hw8
                        have hw8n : wD (A 18) (F 5) LINE (0, F 6) = (0, a8) := hw8
                        have ehw9 : b9 = 1 := by omega
                        rw [ehw9] at hw9
                        have hw9n : dG (A 18) (F 5) 4 (0, a8) = ((0, a9), v9) := hw9
                        have ehw10 : b10 = 1 := by omega
                        rw [ehw10] at hw10
                        have hw10n : wD (A 18) (F 5) PP (0, a9) = (0, a10) := hw10
                        have ehw11 : b11 = 1 := by omega
                        rw [ehw11] at hw11
                        have hw11n : dG (A 18) (F 5) 2 (0, a10) = ((0, a11), v11) := hw11
                        have ehw12 : b12 = 1 := by omega
                        rw [ehw12] at hw12
                        have hw12n : wD (A 18) (F 5) SPC (0, a11) = (0, a12) := hw12
                        have ehw15 : b15 = 1 := by omega
                        rw [ehw15] at hw15
                        have hw15n : wD (A 18) (F 5) HEADS (0, a12) = (0, a15) := hw15
                        have ehw16 : b16 = 0 := by omega
                        rw [ehw16] at hw16
                        have hw16n : tS (A 18) (F 5) (0, a15) = (1, a16) := hw16
                        have hk : eK (A 18) (F 5) i (0, F 6) = 1 := by
                          unfold eK
                          (try dsimp only)
                          rw [if_neg (fun z => by omega)]
                          rw [if_pos ⟨by omega, by omega⟩]
                        have eP : pN (A 18) (F 5) LINE (0, F 6) = ((0, a9), v9) := by unfold pN; rw [hw8n, hw9n]
                        have eR : pR (A 18) (F 5) LINE (0, F 6) = ((0, a11), v11) := by
                          unfold pR
                          rw [eP]
                          (try dsimp only)
                          rw [hw10n]
                          rw [hw11n]
                        have eL : pL (A 18) (F 5) (0, F 6) = (0, a12) := by
                          unfold pL
                          rw [eR]
                          (try dsimp only)
                          rw [hw12n]
                        have eT : tB (A 18) (F 5) i (0, F 6) = (0, a15) := by
                          rw [(eN_1 hk).2, eL]
                          (try dsimp only)
                          rw [if_neg (by omega), hw15n]
                        have eS : eN (A 18) (F 5) i (0, F 6) = (1, a16) := by rw [(eN_1 hk).1, eT]; exact hw16n
                        exact ⟨eS, fun z => absurd z (by decide)⟩
                      · refine R_s (P := True) (f' := (96, [some (vR 17), some (vR 20), some (vI x), some (vI 0), some (vI (nx (A 18) (F 5) (F 6)))], [vI 1], LAY (u (u (u (u (u (u (u (u A 24 (A 24)) 21 (wr (A 21) x 1)) 22 (wr (A 22) x v9)) 23 (wr (A 23) x v11)) 25 (wr (A 25) x 1)) 26 s5_16) 27 s6_16) 28 s7_16) (u (u F 6 a16) 7 v16), 0, 0)) hc39 2 rfl trivial ?_
                        refine R_retz hc39 rfl rfl (Or.inr rfl) ⟨1, wr (A 21) x 1, wr (A 22) x v9, wr (A 23) x v11, A 24, wr (A 25) x 1, s5_16, s6_16, s7_16, a16, v16, rfl, rfl, (by (try simp only [wr_len]); omega), (by (try simp only [wr_len]); omega), (by (try simp only [wr_len]); omega), (by (try simp only [wr_len]); omega), (by (try simp only [wr_len]); omega), (by (try simp only [wr_len]); omega), (by (try simp only [wr_len]); omega), (by (try simp only [wr_len]); omega), by decide, by omega, by omega, fun q hq => by rw [rd_wr_n (by omega) (by omega) (by omega)], fun q hq => by rw [rd_wr_n (by omega) (by omega) (by omega)], fun q hq => by rw [rd_wr_n (by omega) (by omega) (by omega)], fun _ _ => rfl, fun q hq => by rw [rd_wr_n (by omega) (by omega) (by omega)], fun q hq => by rw [kp16_5 q hq, rd_wr_n (by omega) (by omega) (by omega)], fun q hq => by rw [kp16_6 q hq], fun q hq => by rw [kp16_7 q hq], ?_⟩
                        have ehw8 : b8 = 1 := by omega
                        rw [ehw8] at hw8
                        have hw8n : wD (A 18) (F 5) LINE (0, F 6) = (0, a8) := hw8
                        have ehw9 : b9 = 1 := by omega
                        rw [ehw9] at hw9
                        have hw9n : dG (A 18) (F 5) 4 (0, a8) = ((0, a9), v9) := hw9
                        have ehw10 : b10 = 1 := by omega
                        rw [ehw10] at hw10
                        have hw10n : wD (A 18) (F 5) PP (0, a9) = (0, a10) := hw10
                        have ehw11 : b11 = 1 := by omega
                        rw [ehw11] at hw11
                        have hw11n : dG (A 18) (F 5) 2 (0, a10) = ((0, a11), v11) := hw11
                        have ehw12 : b12 = 1 := by omega
                        rw [ehw12] at hw12
                        have hw12n : wD (A 18) (F 5) SPC (0, a11) = (0, a12) := hw12
                        have ehw15 : b15 = 1 := by omega
                        rw [ehw15] at hw15
                        have hw15n : wD (A 18) (F 5) HEADS (0, a12) = (0, a15) := hw15
                        have ehw16 : b16 = 1 := by omega
                        rw [ehw16] at hw16
                        have hw16n : tS (A 18) (F 5) (0, a15) = (0, a16) := hw16
                        have hk : eK (A 18) (F 5) i (0, F 6) = 1 := by
                          unfold eK
                          (try dsimp only)
                          rw [if_neg (fun z => by omega)]
                          rw [if_pos ⟨by omega, by omega⟩]
                        have eP : pN (A 18) (F 5) LINE (0, F 6) = ((0, a9), v9) := by unfold pN; rw [hw8n, hw9n]
                        have eR : pR (A 18) (F 5) LINE (0, F 6) = ((0, a11), v11) := by
                          unfold pR
                          rw [eP]
                          (try dsimp only)
                          rw [hw10n]
                          rw [hw11n]
                        have eL : pL (A 18) (F 5) (0, F 6) = (0, a12) := by
                          unfold pL
                          rw [eR]
                          (try dsimp only)
                          rw [hw12n]
                        have eT : tB (A 18) (F 5) i (0, F 6) = (0, a15) := by
                          rw [(eN_1 hk).2, eL]
                          (try dsimp only)
                          rw [if_neg (by omega), hw15n]
                        have eS : eN (A 18) (F 5) i (0, F 6) = (0, a16) := by rw [(eN_1 hk).1, eT]; exact hw16n
                        have r0 : rd (wr (A 21) x 1) i = 1 := by rw [← ex]; exact rd_wr_s (by omega) (by (try simp only [wr_len]); omega)
                        have r1 : rd (wr (A 22) x v9) i = v9 := by rw [← ex]; exact rd_wr_s (by omega) (by (try simp only [wr_len]); omega)
                        have r2 : rd (wr (A 23) x v11) i = v11 := by rw [← ex]; exact rd_wr_s (by omega) (by (try simp only [wr_len]); omega)
                        have r4 : rd (wr (A 25) x 1) i = 1 := by rw [← ex]; exact rd_wr_s (by omega) (by (try simp only [wr_len]); omega)
                        exact ⟨eS, fun _ => ⟨by rw [r0, hk], fun z => absurd z (by rw [r0]; decide), fun _ => ⟨by rw [r1, eP], by rw [r2, eR], by rw [r4, eL]; (try dsimp only); rw [if_neg (by omega)]⟩, fun z => absurd z (by rw [r0]; decide), fun z => absurd z (by rw [r0]; decide), fun _ => by
                          rw [eT]
                          have z := hv16 (by omega)
                          exact ⟨z.1, z.2.imp (fun w => by rw [z.1, w]; rfl) id⟩⟩⟩
                · refine R_s (P := True) (f' := (55, [some (vR 17), some (vR 20), some (vI x)], [vI 0], LAY (u (u (u (u (u (u (u (u A 24 (A 24)) 25 (A 25)) 27 (A 27)) 28 (A 28)) 26 (wr (A 26) x 0)) 21 (wr (A 21) x 1)) 22 (wr (A 22) x v9)) 23 (wr (A 23) x v11)) (u (u F 7 v11) 6 a12), 0, 0)) hc41 1 rfl trivial ?_
                  refine R_retz hc41 rfl rfl (Or.inl rfl) ?_
                  refine R_s (f' := (79, [some (vR 17), some (vR 20), some (vI x), some (vI 0), some (vI (nx (A 18) (F 5) (F 6)))], [vI 0], LAY (u (u (u (u (u (u (u (u A 24 (A 24)) 25 (A 25)) 27 (A 27)) 28 (A 28)) 26 (wr (A 26) x 0)) 21 (wr (A 21) x 1)) 22 (wr (A 22) x v9)) 23 (wr (A 23) x v11)) (u (u F 7 v11) 6 a12), 0, 0)) hc39 0 rfl trivial ?_
                  refine R_if (t := 95) hc39 rfl rfl (fun (_ : 0 = 0) => ?_) (fun (z : ¬ (0 = 0)) => absurd (by decide) z)
                  refine R_s (P := True) (f' := (96, [some (vR 17), some (vR 20), some (vI x), some (vI 0), some (vI (nx (A 18) (F 5) (F 6)))], [vI 0], LAY (u (u (u (u (u (u (u (u A 24 (A 24)) 25 (A 25)) 27 (A 27)) 28 (A 28)) 26 (wr (A 26) x 0)) 21 (wr (A 21) x 1)) 22 (wr (A 22) x v9)) 23 (wr (A 23) x v11)) (u (u F 7 v11) 6 a12), 0, 0)) hc39 1 rfl trivial ?_
                  refine R_retz hc39 rfl rfl (Or.inl rfl) ⟨0, wr (A 21) x 1, wr (A 22) x v9, wr (A 23) x v11, A 24, A 25, wr (A 26) x 0, A 27, A 28, a12, v11, rfl, rfl, (by (try simp only [wr_len]); omega), (by (try simp only [wr_len]); omega), (by (try simp only [wr_len]); omega), (by (try simp only [wr_len]); omega), (by (try simp only [wr_len]); omega), (by (try simp only [wr_len]); omega), (by (try simp only [wr_len]); omega), (by (try simp only [wr_len]); omega), by decide, by omega, by omega, fun q hq => by rw [rd_wr_n (by omega) (by omega) (by omega)], fun q hq => by rw [rd_wr_n (by omega) (by omega) (by omega)], fun q hq => by rw [rd_wr_n (by omega) (by omega) (by omega)], fun _ _ => rfl, fun _ _ => rfl, fun q hq => by rw [rd_wr_n (by omega) (by omega) (by omega)], fun _ _ => rfl, fun _ _ => rfl, ?_⟩
                  have ehw8 : b8 = 1 := by omega
                  rw [ehw8] at hw8
                  have hw8n : wD (A 18) (F 5) LINE (0, F 6) = (0, a8) := hw8
                  have ehw9 : b9 = 1 := by omega
                  rw [ehw9] at hw9
                  have hw9n : dG (A 18) (F 5) 4 (0, a8) = ((0, a9), v9) := hw9
                  have ehw10 : b10 = 1 := by omega
                  rw [ehw10] at hw10
                  have hw10n : wD (A 18) (F 5) PP (0, a9) = (0, a10) := hw10
                  have ehw11 : b11 = 1 := by omega
                  rw [ehw11] at hw11
                  have hw11n : dG (A 18) (F 5) 2 (0, a10) = ((0, a11), v11) := hw11
                  have ehw12 : b12 = 0 := by omega
                  rw [ehw12] at hw12
                  have hw12n : wD (A 18) (F 5) SPC (0, a11) = (1, a12) := hw12
                  have hk : eK (A 18) (F 5) i (0, F 6) = 1 := by
                    unfold eK
                    (try dsimp only)
                    rw [if_neg (fun z => by omega)]
                    rw [if_pos ⟨by omega, by omega⟩]
                  have eP : pN (A 18) (F 5) LINE (0, F 6) = ((0, a9), v9) := by unfold pN; rw [hw8n, hw9n]
                  have eR : pR (A 18) (F 5) LINE (0, F 6) = ((0, a11), v11) := by
                    unfold pR
                    rw [eP]
                    (try dsimp only)
                    rw [hw10n]
                    rw [hw11n]
                  have eL : pL (A 18) (F 5) (0, F 6) = (1, a12) := by
                    unfold pL
                    rw [eR]
                    (try dsimp only)
                    rw [hw12n]
                  have eT : tB (A 18) (F 5) i (0, F 6) = (1, a12) := by
                    rw [(eN_1 hk).2, eL]
                    split
                    · exact wD_f _
                    · exact wD_f _
                  have eS : eN (A 18) (F 5) i (0, F 6) = (1, a12) := by rw [(eN_1 hk).1, eT, tS_f]
                  exact ⟨eS, fun z => absurd z (by decide)⟩
              · refine R_s (P := True) (f' := (18, [some (vR 17), some (vR 20), some (vI x)], [vI 0], LAY (u (u (u (u (u (u (u (u A 23 (A 23)) 24 (A 24)) 25 (A 25)) 27 (A 27)) 28 (A 28)) 26 (wr (A 26) x 0)) 21 (wr (A 21) x 1)) 22 (wr (A 22) x v9)) (u (u F 6 a11) 7 v11), 0, 0)) hc47 1 rfl trivial ?_
                refine R_retz hc47 rfl rfl (Or.inl rfl) ?_
                refine R_s (f' := (42, [some (vR 17), some (vR 20), some (vI x)], [vI 0], LAY (u (u (u (u (u (u (u (u A 23 (A 23)) 24 (A 24)) 25 (A 25)) 27 (A 27)) 28 (A 28)) 26 (wr (A 26) x 0)) 21 (wr (A 21) x 1)) 22 (wr (A 22) x v9)) (u (u F 6 a11) 7 v11), 0, 0)) hc41 0 rfl trivial ?_
                refine R_if (t := 54) hc41 rfl rfl (fun (_ : 0 = 0) => ?_) (fun (z : ¬ (0 = 0)) => absurd (by decide) z)
                refine R_s (P := True) (f' := (55, [some (vR 17), some (vR 20), some (vI x)], [vI 0], LAY (u (u (u (u (u (u (u (u A 23 (A 23)) 24 (A 24)) 25 (A 25)) 27 (A 27)) 28 (A 28)) 26 (wr (A 26) x 0)) 21 (wr (A 21) x 1)) 22 (wr (A 22) x v9)) (u (u F 6 a11) 7 v11), 0, 0)) hc41 1 rfl trivial ?_
                refine R_retz hc41 rfl rfl (Or.inl rfl) ?_
                refine R_s (f' := (79, [some (vR 17), some (vR 20), some (vI x), some (vI 0), some (vI (nx (A 18) (F 5) (F 6)))], [vI 0], LAY (u (u (u (u (u (u (u (u A 23 (A 23)) 24 (A 24)) 25 (A 25)) 27 (A 27)) 28 (A 28)) 26 (wr (A 26) x 0)) 21 (wr (A 21) x 1)) 22 (wr (A 22) x v9)) (u (u F 6 a11) 7 v11), 0, 0)) hc39 0 rfl trivial ?_
                refine R_if (t := 95) hc39 rfl rfl (fun (_ : 0 = 0) => ?_) (fun (z : ¬ (0 = 0)) => absurd (by decide) z)
                refine R_s (P := True) (f' := (96, [some (vR 17), some (vR 20), some (vI x), some (vI 0), some (vI (nx (A 18) (F 5) (F 6)))], [vI 0], LAY (u (u (u (u (u (u (u (u A 23 (A 23)) 24 (A 24)) 25 (A 25)) 27 (A 27)) 28 (A 28)) 26 (wr (A 26) x 0)) 21 (wr (A 21) x 1)) 22 (wr (A 22) x v9)) (u (u F 6 a11) 7 v11), 0, 0)) hc39 1 rfl trivial ?_
                refine R_retz hc39 rfl rfl (Or.inl rfl) ⟨0, wr (A 21) x 1, wr (A 22) x v9, A 23, A 24, A 25, wr (A 26) x 0, A 27, A 28, a11, v11, rfl, rfl, (by (try simp only [wr_len]); omega), (by (try simp only [wr_len]); omega), (by (try simp only [wr_len]); omega), (by (try simp only [wr_len]); omega), (by (try simp only [wr_len]); omega), (by (try simp only [wr_len]); omega), (by (try simp only [wr_len]); omega), (by (try simp only [wr_len]); omega), by decide, by omega, by omega, fun q hq => by rw [rd_wr_n (by omega) (by omega) (by omega)], fun q hq => by rw [rd_wr_n (by omega) (by omega) (by omega)], fun _ _ => rfl, fun _ _ => rfl, fun _ _ => rfl, fun q hq => by rw [rd_wr_n (by omega) (by omega) (by omega)], fun _ _ => rfl, fun _ _ => rfl, ?_⟩
                have ehw8 : b8 = 1 := by omega
                rw [ehw8] at hw8
                have hw8n : wD (A 18) (F 5) LINE (0, F 6) = (0, a8) := hw8
                have ehw9 : b9 = 1 := by omega
                rw [ehw9] at hw9
                have hw9n : dG (A 18) (F 5) 4 (0, a8) = ((0, a9), v9) := hw9
                have ehw10 : b10 = 1 := by omega
                rw [ehw10] at hw10
                have hw10n : wD (A 18) (F 5) PP (0, a9) = (0, a10) := hw10
                have ehw11 : b11 = 0 := by omega
                rw [ehw11] at hw11
                have hw11n : dG (A 18) (F 5) 2 (0, a10) = ((1, a11), v11) := hw11
                have hk : eK (A 18) (F 5) i (0, F 6) = 1 := by
                  unfold eK
                  (try dsimp only)
                  rw [if_neg (fun z => by omega)]
                  rw [if_pos ⟨by omega, by omega⟩]
                have eP : pN (A 18) (F 5) LINE (0, F 6) = ((0, a9), v9) := by unfold pN; rw [hw8n, hw9n]
                have eR : pR (A 18) (F 5) LINE (0, F 6) = ((1, a11), v11) := by
                  unfold pR
                  rw [eP]
                  (try dsimp only)
                  rw [hw10n]
                  rw [hw11n]
                have eL : pL (A 18) (F 5) (0, F 6) = (1, a11) := by
                  unfold pL
                  rw [eR]
                  (try dsimp only)
                  rw [wD_f]
                have eT : tB (A 18) (F 5) i (0, F 6) = (1, a11) := by
                  rw [(eN_1 hk).2, eL]
                  split
                  · exact wD_f _
                  · exact wD_f _
                have eS : eN (A 18) (F 5) i (0, F 6) = (1, a11) := by rw [(eN_1 hk).1, eT, tS_f]
                exact ⟨eS, fun z => absurd z (by decide)⟩
          · refine R_s (P := True) (f' := (25, [some (vR 17), some (vR 20), some (vI x)], [vI 0], LAY (u (u (u (u (u (u (u (u A 22 (A 22)) 23 (A 23)) 24 (A 24)) 25 (A 25)) 27 (A 27)) 28 (A 28)) 26 (wr (A 26) x 0)) 21 (wr (A 21) x 1)) (u (u F 6 a9) 7 v9), 0, 0)) hc41 1 rfl trivial ?_
            refine R_retz hc41 rfl rfl (Or.inl rfl) ?_
            refine R_s (f' := (79, [some (vR 17), some (vR 20), some (vI x), some (vI 0), some (vI (nx (A 18) (F 5) (F 6)))], [vI 0], LAY (u (u (u (u (u (u (u (u A 22 (A 22)) 23 (A 23)) 24 (A 24)) 25 (A 25)) 27 (A 27)) 28 (A 28)) 26 (wr (A 26) x 0)) 21 (wr (A 21) x 1)) (u (u F 6 a9) 7 v9), 0, 0)) hc39 0 rfl trivial ?_
            refine R_if (t := 95) hc39 rfl rfl (fun (_ : 0 = 0) => ?_) (fun (z : ¬ (0 = 0)) => absurd (by decide) z)
            refine R_s (P := True) (f' := (96, [some (vR 17), some (vR 20), some (vI x), some (vI 0), some (vI (nx (A 18) (F 5) (F 6)))], [vI 0], LAY (u (u (u (u (u (u (u (u A 22 (A 22)) 23 (A 23)) 24 (A 24)) 25 (A 25)) 27 (A 27)) 28 (A 28)) 26 (wr (A 26) x 0)) 21 (wr (A 21) x 1)) (u (u F 6 a9) 7 v9), 0, 0)) hc39 1 rfl trivial ?_
            refine R_retz hc39 rfl rfl (Or.inl rfl) ⟨0, wr (A 21) x 1, A 22, A 23, A 24, A 25, wr (A 26) x 0, A 27, A 28, a9, v9, rfl, rfl, (by (try simp only [wr_len]); omega), (by (try simp only [wr_len]); omega), (by (try simp only [wr_len]); omega), (by (try simp only [wr_len]); omega), (by (try simp only [wr_len]); omega), (by (try simp only [wr_len]); omega), (by (try simp only [wr_len]); omega), (by (try simp only [wr_len]); omega), by decide, by omega, by omega, fun q hq => by rw [rd_wr_n (by omega) (by omega) (by omega)], fun _ _ => rfl, fun _ _ => rfl, fun _ _ => rfl, fun _ _ => rfl, fun q hq => by rw [rd_wr_n (by omega) (by omega) (by omega)], fun _ _ => rfl, fun _ _ => rfl, ?_⟩
            have ehw8 : b8 = 1 := by omega
            rw [ehw8] at hw8
            have hw8n : wD (A 18) (F 5) LINE (0, F 6) = (0, a8) := hw8
            have ehw9 : b9 = 0 := by omega
            rw [ehw9] at hw9
            have hw9n : dG (A 18) (F 5) 4 (0, a8) = ((1, a9), v9) := hw9
            have hk : eK (A 18) (F 5) i (0, F 6) = 1 := by
              unfold eK
              (try dsimp only)
              rw [if_neg (fun z => by omega)]
              rw [if_pos ⟨by omega, by omega⟩]
            have eP : pN (A 18) (F 5) LINE (0, F 6) = ((1, a9), v9) := by unfold pN; rw [hw8n, hw9n]
            have eR : pR (A 18) (F 5) LINE (0, F 6) = ((1, a9), 0) := by
              unfold pR
              rw [eP]
              (try dsimp only)
              rw [wD_f]
              rw [dG_f]
            have eL : pL (A 18) (F 5) (0, F 6) = (1, a9) := by
              unfold pL
              rw [eR]
              (try dsimp only)
              rw [wD_f]
            have eT : tB (A 18) (F 5) i (0, F 6) = (1, a9) := by
              rw [(eN_1 hk).2, eL]
              split
              · exact wD_f _
              · exact wD_f _
            have eS : eN (A 18) (F 5) i (0, F 6) = (1, a9) := by rw [(eN_1 hk).1, eT, tS_f]
            exact ⟨eS, fun z => absurd z (by decide)⟩
    · refine R_s (P := True) (f' := (35, [some (vR 17), some (vR 20), some (vI x), some (vI 0), some (vI (nx (A 18) (F 5) (F 6)))], [vI 0], LAY (u (u (u (u (u (u (u (u A 21 (A 21)) 22 (A 22)) 23 (A 23)) 24 (A 24)) 25 (A 25)) 27 (A 27)) 28 (A 28)) 26 (wr (A 26) x 0)) (u (u F 6 (F 6)) 7 (F 7)), 0, 0)) hc39 1 rfl trivial ?_
      refine R_if (t := 62) hc39 rfl rfl (fun (z : ¬ 0 = 0) => absurd z (by decide)) (fun (_ : ¬ (¬ 0 = 0)) => ?_)
      refine R_s (P := True) (f' := (41, [some (vR 17), some (vR 20), some (vI x), some (vI 0), some (vI (nx (A 18) (F 5) (F 6)))], [vI x, vR 20, vR 17], LAY (u (u (u (u (u (u (u (u A 21 (A 21)) 22 (A 22)) 23 (A 23)) 24 (A 24)) 25 (A 25)) 27 (A 27)) 28 (A 28)) 26 (wr (A 26) x 0)) (u (u F 6 (F 6)) 7 (F 7)), 0, 0)) hc39 3 rfl trivial ?_
      refine R_cv hc39 rfl rfl ?_ (fun r G h => h)
      refine R_s (P := (0 ≤ x ∧ x < ((A 21).length : Int)) ∧ True) (f' := (10, [some (vR 17), some (vR 20), some (vI x)], [vS 0, vR 17], LAY (u (u (u (u (u (u (u (u A 22 (A 22)) 23 (A 23)) 24 (A 24)) 25 (A 25)) 27 (A 27)) 28 (A 28)) 26 (wr (A 26) x 0)) 21 (wr (A 21) x 0)) (u (u F 6 (F 6)) 7 (F 7)), 0, 0)) hc40 7 rfl ⟨⟨by omega, by omega⟩, trivial⟩ ?_
      refine R_cv hc40 rfl rfl (l_word0 (A := (u (u (u (u (u (u (u (u A 22 (A 22)) 23 (A 23)) 24 (A 24)) 25 (A 25)) 27 (A 27)) 28 (A 28)) 26 (wr (A 26) x 0)) 21 (wr (A 21) x 0))) (F := (u (u F 6 (F 6)) 7 (F 7))) (LENS_u (LENS_u (LENS_u (LENS_u (LENS_u (LENS_u (LENS_u (LENS_u hL (by show (A 22).length = (A 22).length; omega)) (by show (A 23).length = (A 23).length; omega)) (by show (A 24).length = (A 24).length; omega)) (by show (A 25).length = (A 25).length; omega)) (by show (A 27).length = (A 27).length; omega)) (by show (A 28).length = (A 28).length; omega)) (by show (wr (A 26) x 0).length = (A 26).length; simp only [wr_len])) (by show (wr (A 21) x 0).length = (A 21).length; simp only [wr_len])) h5 ⟨by (show 0 ≤ F 6); omega, by (show F 6 ≤ F 5); omega⟩) (fun r G9 hp9 => ?_)
      obtain ⟨b17, a17, rfl, rfl, hb17, hw17, p17, q17⟩ := hp9
      have p17 : 0 ≤ a17 := p17
      have q17 : a17 ≤ F 5 := q17
      refine R_s (f' := (13, [some (vR 17), some (vR 20), some (vI x)], [vI b17], LAY (u (u (u (u (u (u (u (u A 22 (A 22)) 23 (A 23)) 24 (A 24)) 25 (A 25)) 27 (A 27)) 28 (A 28)) 26 (wr (A 26) x 0)) 21 (wr (A 21) x 0)) (u (u F 7 (F 7)) 6 a17), 0, 0)) hc40 0 rfl trivial ?_
      refine R_if (t := 24) hc40 rfl rfl (fun (c19 : b17 = 0) => ?_) (fun (c19 : ¬ (b17 = 0)) => ?_)
      · refine R_s (P := True) (f' := (25, [some (vR 17), some (vR 20), some (vI x)], [vI 0], LAY (u (u (u (u (u (u (u (u A 22 (A 22)) 23 (A 23)) 24 (A 24)) 25 (A 25)) 27 (A 27)) 28 (A 28)) 26 (wr (A 26) x 0)) 21 (wr (A 21) x 0)) (u (u F 7 (F 7)) 6 a17), 0, 0)) hc40 1 rfl trivial ?_
        refine R_retz hc40 rfl rfl (Or.inl rfl) ?_
        refine R_s (f' := (44, [some (vR 17), some (vR 20), some (vI x), some (vI 0), some (vI (nx (A 18) (F 5) (F 6)))], [vI 0], LAY (u (u (u (u (u (u (u (u A 22 (A 22)) 23 (A 23)) 24 (A 24)) 25 (A 25)) 27 (A 27)) 28 (A 28)) 26 (wr (A 26) x 0)) 21 (wr (A 21) x 0)) (u (u F 7 (F 7)) 6 a17), 0, 0)) hc39 0 rfl trivial ?_
        refine R_if (t := 60) hc39 rfl rfl (fun (_ : 0 = 0) => ?_) (fun (z : ¬ (0 = 0)) => absurd (by decide) z)
        refine R_s (P := True) (f' := (61, [some (vR 17), some (vR 20), some (vI x), some (vI 0), some (vI (nx (A 18) (F 5) (F 6)))], [vI 0], LAY (u (u (u (u (u (u (u (u A 22 (A 22)) 23 (A 23)) 24 (A 24)) 25 (A 25)) 27 (A 27)) 28 (A 28)) 26 (wr (A 26) x 0)) 21 (wr (A 21) x 0)) (u (u F 7 (F 7)) 6 a17), 0, 0)) hc39 1 rfl trivial ?_
        refine R_retz hc39 rfl rfl (Or.inl rfl) ⟨0, wr (A 21) x 0, A 22, A 23, A 24, A 25, wr (A 26) x 0, A 27, A 28, a17, F 7, rfl, rfl, (by (try simp only [wr_len]); omega), (by (try simp only [wr_len]); omega), (by (try simp only [wr_len]); omega), (by (try simp only [wr_len]); omega), (by (try simp only [wr_len]); omega), (by (try simp only [wr_len]); omega), (by (try simp only [wr_len]); omega), (by (try simp only [wr_len]); omega), by decide, by omega, by omega, fun q hq => by rw [rd_wr_n (by omega) (by omega) (by omega)], fun _ _ => rfl, fun _ _ => rfl, fun _ _ => rfl, fun _ _ => rfl, fun q hq => by rw [rd_wr_n (by omega) (by omega) (by omega)], fun _ _ => rfl, fun _ _ => rfl, ?_⟩
        have ehw17 : b17 = 0 := by omega
        rw [ehw17] at hw17
        have hw17n : wD (A 18) (F 5) FIX (0, F 6) = (1, a17) := hw17
        have hk : eK (A 18) (F 5) i (0, F 6) = 0 := by
          unfold eK
          (try dsimp only)
          rw [if_pos ⟨by omega, by omega⟩]
        have eP : pN (A 18) (F 5) FIX (0, F 6) = ((1, a17), 0) := by unfold pN; rw [hw17n, dG_f]
        have eH : pH (A 18) (F 5) (0, F 6) = ((1, a17), 0) := by
          unfold pH
          rw [eP]
          (try dsimp only)
          rw [wD_f]
          rw [hS_f]
        have eT : tB (A 18) (F 5) i (0, F 6) = (1, a17) := by rw [(eN_0 hk).2, eH]
        have eS : eN (A 18) (F 5) i (0, F 6) = (1, a17) := by rw [(eN_0 hk).1, eT, tS_f]
        exact ⟨eS, fun z => absurd z (by decide)⟩
      · refine R_s (P := True) (f' := (18, [some (vR 17), some (vR 20), some (vI x)], [vI 4, vR 17], LAY (u (u (u (u (u (u (u (u A 22 (A 22)) 23 (A 23)) 24 (A 24)) 25 (A 25)) 27 (A 27)) 28 (A 28)) 26 (wr (A 26) x 0)) 21 (wr (A 21) x 0)) (u (u F 7 (F 7)) 6 a17), 0, 0)) hc40 2 rfl trivial ?_
        refine R_cv hc40 rfl rfl (l_numb (A := (u (u (u (u (u (u (u (u A 22 (A 22)) 23 (A 23)) 24 (A 24)) 25 (A 25)) 27 (A 27)) 28 (A 28)) 26 (wr (A 26) x 0)) 21 (wr (A 21) x 0))) (F := (u (u F 7 (F 7)) 6 a17)) (LENS_u (LENS_u (LENS_u (LENS_u (LENS_u (LENS_u (LENS_u (LENS_u hL (by show (A 22).length = (A 22).length; omega)) (by show (A 23).length = (A 23).length; omega)) (by show (A 24).length = (A 24).length; omega)) (by show (A 25).length = (A 25).length; omega)) (by show (A 27).length = (A 27).length; omega)) (by show (A 28).length = (A 28).length; omega)) (by show (wr (A 26) x 0).length = (A 26).length; simp only [wr_len])) (by show (wr (A 21) x 0).length = (A 21).length; simp only [wr_len])) h5 ⟨by (show 0 ≤ a17); omega, by (show a17 ≤ F 5); omega⟩ (kk := 4) (by decide) rfl) (fun r G9 hp9 => ?_)
        obtain ⟨b18, a18, v18, rfl, rfl, hb18, hw18, p18, q18, w18⟩ := hp9
        have p18 : 0 ≤ a18 := p18
        have q18 : a18 ≤ F 5 := q18
        refine R_s (f' := (21, [some (vR 17), some (vR 20), some (vI x)], [vI b18], LAY (u (u (u (u (u (u (u (u A 22 (A 22)) 23 (A 23)) 24 (A 24)) 25 (A 25)) 27 (A 27)) 28 (A 28)) 26 (wr (A 26) x 0)) 21 (wr (A 21) x 0)) (u (u F 6 a18) 7 v18), 0, 0)) hc40 0 rfl trivial ?_
        refine R_if (t := 26) hc40 rfl rfl (fun (c20 : ¬ b18 = 0) => ?_) (fun (c20 : ¬ (¬ b18 = 0)) => ?_)
        · refine R_s (P := (0 ≤ x ∧ x < ((A 22).length : Int)) ∧ True) (f' := (39, [some (vR 17), some (vR 20), some (vI x)], [vS 1, vR 17], LAY (u (u (u (u (u (u (u (u A 23 (A 23)) 24 (A 24)) 25 (A 25)) 27 (A 27)) 28 (A 28)) 26 (wr (A 26) x 0)) 21 (wr (A 21) x 0)) 22 (wr (A 22) x v18)) (u (u F 6 a18) 7 v18), 0, 0)) hc40 8 rfl ⟨⟨by omega, by omega⟩, trivial⟩ ?_
          refine R_cv hc40 rfl rfl (l_word1 (A := (u (u (u (u (u (u (u (u A 23 (A 23)) 24 (A 24)) 25 (A 25)) 27 (A 27)) 28 (A 28)) 26 (wr (A 26) x 0)) 21 (wr (A 21) x 0)) 22 (wr (A 22) x v18))) (F := (u (u F 6 a18) 7 v18)) (LENS_u (LENS_u (LENS_u (LENS_u (LENS_u (LENS_u (LENS_u (LENS_u hL (by show (A 23).length = (A 23).length; omega)) (by show (A 24).length = (A 24).length; omega)) (by show (A 25).length = (A 25).length; omega)) (by show (A 27).length = (A 27).length; omega)) (by show (A 28).length = (A 28).length; omega)) (by show (wr (A 26) x 0).length = (A 26).length; simp only [wr_len])) (by show (wr (A 21) x 0).length = (A 21).length; simp only [wr_len])) (by show (wr (A 22) x v18).length = (A 22).length; simp only [wr_len])) h5 ⟨by (show 0 ≤ a18); omega, by (show a18 ≤ F 5); omega⟩) (fun r G9 hp9 => ?_)
          obtain ⟨b19, a19, rfl, rfl, hb19, hw19, p19, q19⟩ := hp9
          have p19 : 0 ≤ a19 := p19
          have q19 : a19 ≤ F 5 := q19
          refine R_s (f' := (42, [some (vR 17), some (vR 20), some (vI x)], [vI b19], LAY (u (u (u (u (u (u (u (u A 23 (A 23)) 24 (A 24)) 25 (A 25)) 27 (A 27)) 28 (A 28)) 26 (wr (A 26) x 0)) 21 (wr (A 21) x 0)) 22 (wr (A 22) x v18)) (u (u F 7 v18) 6 a19), 0, 0)) hc40 0 rfl trivial ?_
          refine R_if (t := 58) hc40 rfl rfl (fun (c21 : b19 = 0) => ?_) (fun (c21 : ¬ (b19 = 0)) => ?_)
          · refine R_s (P := True) (f' := (59, [some (vR 17), some (vR 20), some (vI x)], [vI 0], LAY (u (u (u (u (u (u (u (u A 23 (A 23)) 24 (A 24)) 25 (A 25)) 27 (A 27)) 28 (A 28)) 26 (wr (A 26) x 0)) 21 (wr (A 21) x 0)) 22 (wr (A 22) x v18)) (u (u F 7 v18) 6 a19), 0, 0)) hc40 1 rfl trivial ?_
            refine R_retz hc40 rfl rfl (Or.inl rfl) ?_
            refine R_s (f' := (44, [some (vR 17), some (vR 20), some (vI x), some (vI 0), some (vI (nx (A 18) (F 5) (F 6)))], [vI 0], LAY (u (u (u (u (u (u (u (u A 23 (A 23)) 24 (A 24)) 25 (A 25)) 27 (A 27)) 28 (A 28)) 26 (wr (A 26) x 0)) 21 (wr (A 21) x 0)) 22 (wr (A 22) x v18)) (u (u F 7 v18) 6 a19), 0, 0)) hc39 0 rfl trivial ?_
            refine R_if (t := 60) hc39 rfl rfl (fun (_ : 0 = 0) => ?_) (fun (z : ¬ (0 = 0)) => absurd (by decide) z)
            refine R_s (P := True) (f' := (61, [some (vR 17), some (vR 20), some (vI x), some (vI 0), some (vI (nx (A 18) (F 5) (F 6)))], [vI 0], LAY (u (u (u (u (u (u (u (u A 23 (A 23)) 24 (A 24)) 25 (A 25)) 27 (A 27)) 28 (A 28)) 26 (wr (A 26) x 0)) 21 (wr (A 21) x 0)) 22 (wr (A 22) x v18)) (u (u F 7 v18) 6 a19), 0, 0)) hc39 1 rfl trivial ?_
            refine R_retz hc39 rfl rfl (Or.inl rfl) ⟨0, wr (A 21) x 0, wr (A 22) x v18, A 23, A 24, A 25, wr (A 26) x 0, A 27, A 28, a19, v18, rfl, rfl, (by (try simp only [wr_len]); omega), (by (try simp only [wr_len]); omega), (by (try simp only [wr_len]); omega), (by (try simp only [wr_len]); omega), (by (try simp only [wr_len]); omega), (by (try simp only [wr_len]); omega), (by (try simp only [wr_len]); omega), (by (try simp only [wr_len]); omega), by decide, by omega, by omega, fun q hq => by rw [rd_wr_n (by omega) (by omega) (by omega)], fun q hq => by rw [rd_wr_n (by omega) (by omega) (by omega)], fun _ _ => rfl, fun _ _ => rfl, fun _ _ => rfl, fun q hq => by rw [rd_wr_n (by omega) (by omega) (by omega)], fun _ _ => rfl, fun _ _ => rfl, ?_⟩
            have ehw17 : b17 = 1 := by omega
            rw [ehw17] at hw17
            have hw17n : wD (A 18) (F 5) FIX (0, F 6) = (0, a17) := hw17
            have ehw18 : b18 = 1 := by omega
            rw [ehw18] at hw18
            have hw18n : dG (A 18) (F 5) 4 (0, a17) = ((0, a18), v18) := hw18
            have ehw19 : b19 = 0 := by omega
            rw [ehw19] at hw19
            have hw19n : wD (A 18) (F 5) SPC (0, a18) = (1, a19) := hw19
            have hk : eK (A 18) (F 5) i (0, F 6) = 0 := by
              unfold eK
              (try dsimp only)
              rw [if_pos ⟨by omega, by omega⟩]
            have eP : pN (A 18) (F 5) FIX (0, F 6) = ((0, a18), v18) := by unfold pN; rw [hw17n, hw18n]
            have eH : pH (A 18) (F 5) (0, F 6) = ((1, a19), 0) := by
              unfold pH
              rw [eP]
              (try dsimp only)
              rw [hw19n]
              rw [hS_f]
            have eT : tB (A 18) (F 5) i (0, F 6) = (1, a19) := by rw [(eN_0 hk).2, eH]
            have eS : eN (A 18) (F 5) i (0, F 6) = (1, a19) := by rw [(eN_0 hk).1, eT, tS_f]
            exact ⟨eS, fun z => absurd z (by decide)⟩
          · refine R_s (P := True) (f' := (48, [some (vR 17), some (vR 20), some (vI x)], [vI x, vR 20, vR 17], LAY (u (u (u (u (u (u (u (u A 23 (A 23)) 24 (A 24)) 25 (A 25)) 27 (A 27)) 28 (A 28)) 26 (wr (A 26) x 0)) 21 (wr (A 21) x 0)) 22 (wr (A 22) x v18)) (u (u F 7 v18) 6 a19), 0, 0)) hc40 3 rfl trivial ?_
            refine R_cv hc40 rfl rfl (l_rhouse0 (A := (u (u (u (u (u (u (u (u A 23 (A 23)) 24 (A 24)) 25 (A 25)) 27 (A 27)) 28 (A 28)) 26 (wr (A 26) x 0)) 21 (wr (A 21) x 0)) 22 (wr (A 22) x v18))) (F := (u (u F 7 v18) 6 a19)) (LENS_u (LENS_u (LENS_u (LENS_u (LENS_u (LENS_u (LENS_u (LENS_u hL (by show (A 23).length = (A 23).length; omega)) (by show (A 24).length = (A 24).length; omega)) (by show (A 25).length = (A 25).length; omega)) (by show (A 27).length = (A 27).length; omega)) (by show (A 28).length = (A 28).length; omega)) (by show (wr (A 26) x 0).length = (A 26).length; simp only [wr_len])) (by show (wr (A 21) x 0).length = (A 21).length; simp only [wr_len])) (by show (wr (A 22) x v18).length = (A 22).length; simp only [wr_len])) h5 ⟨by (show 0 ≤ a19); omega, by (show a19 ≤ F 5); omega⟩ ex hi) (fun r G9 hp9 => ?_)
            obtain ⟨b20, h3_20, a20, v20, rfl, rfl, l20, hb20, p20, q20, kp20, h20, hw20, hv20⟩ := hp9
            have q20 : a20 ≤ F 5 := q20
            have kp20 : ∀ q : Nat, q ≠ i → rd h3_20 q = rd (A 24) q := kp20
            refine R_s (f' := (51, [some (vR 17), some (vR 20), some (vI x)], [vI b20], LAY (u (u (u (u (u (u (u (u A 23 (A 23)) 25 (A 25)) 27 (A 27)) 28 (A 28)) 26 (wr (A 26) x 0)) 21 (wr (A 21) x 0)) 22 (wr (A 22) x v18)) 24 h3_20) (u (u F 6 a20) 7 v20), 0, 0)) hc40 0 rfl trivial ?_
            refine R_if (t := 58) hc40 rfl rfl (fun (c22 : b20 = 0) => ?_) (fun (c22 : ¬ (b20 = 0)) => ?_)
            · refine R_s (P := True) (f' := (59, [some (vR 17), some (vR 20), some (vI x)], [vI 0], LAY (u (u (u (u (u (u (u (u A 23 (A 23)) 25 (A 25)) 27 (A 27)) 28 (A 28)) 26 (wr (A 26) x 0)) 21 (wr (A 21) x 0)) 22 (wr (A 22) x v18)) 24 h3_20) (u (u F 6 a20) 7 v20), 0, 0)) hc40 1 rfl trivial ?_
              refine R_retz hc40 rfl rfl (Or.inl rfl) ?_
              refine R_s (f' := (44, [some (vR 17), some (vR 20), some (vI x), some (vI 0), some (vI (nx (A 18) (F 5) (F 6)))], [vI 0], LAY (u (u (u (u (u (u (u (u A 23 (A 23)) 25 (A 25)) 27 (A 27)) 28 (A 28)) 26 (wr (A 26) x 0)) 21 (wr (A 21) x 0)) 22 (wr (A 22) x v18)) 24 h3_20) (u (u F 6 a20) 7 v20), 0, 0)) hc39 0 rfl trivial ?_
              refine R_if (t := 60) hc39 rfl rfl (fun (_ : 0 = 0) => ?_) (fun (z : ¬ (0 = 0)) => absurd (by decide) z)
              refine R_s (P := True) (f' := (61, [some (vR 17), some (vR 20), some (vI x), some (vI 0), some (vI (nx (A 18) (F 5) (F 6)))], [vI 0], LAY (u (u (u (u (u (u (u (u A 23 (A 23)) 25 (A 25)) 27 (A 27)) 28 (A 28)) 26 (wr (A 26) x 0)) 21 (wr (A 21) x 0)) 22 (wr (A 22) x v18)) 24 h3_20) (u (u F 6 a20) 7 v20), 0, 0)) hc39 1 rfl trivial ?_
              refine R_retz hc39 rfl rfl (Or.inl rfl) ⟨0, wr (A 21) x 0, wr (A 22) x v18, A 23, h3_20, A 25, wr (A 26) x 0, A 27, A 28, a20, v20, rfl, rfl, (by (try simp only [wr_len]); omega), (by (try simp only [wr_len]); omega), (by (try simp only [wr_len]); omega), (by (try simp only [wr_len]); omega), (by (try simp only [wr_len]); omega), (by (try simp only [wr_len]); omega), (by (try simp only [wr_len]); omega), (by (try simp only [wr_len]); omega), by decide, by omega, by omega, fun q hq => by rw [rd_wr_n (by omega) (by omega) (by omega)], fun q hq => by rw [rd_wr_n (by omega) (by omega) (by omega)], fun _ _ => rfl, fun q hq => by rw [kp20 q hq], fun _ _ => rfl, fun q hq => by rw [rd_wr_n (by omega) (by omega) (by omega)], fun _ _ => rfl, fun _ _ => rfl, ?_⟩
              have ehw17 : b17 = 1 := by omega
              rw [ehw17] at hw17
              have hw17n : wD (A 18) (F 5) FIX (0, F 6) = (0, a17) := hw17
              have ehw18 : b18 = 1 := by omega
              rw [ehw18] at hw18
              have hw18n : dG (A 18) (F 5) 4 (0, a17) = ((0, a18), v18) := hw18
              have ehw19 : b19 = 1 := by omega
              rw [ehw19] at hw19
              have hw19n : wD (A 18) (F 5) SPC (0, a18) = (0, a19) := hw19
              have ehw20 : b20 = 0 := by omega
              rw [ehw20] at hw20
              have hw20n : hS (A 18) (F 5) (0, a19) = ((1, a20), h20) := hw20
              have hk : eK (A 18) (F 5) i (0, F 6) = 0 := by
                unfold eK
                (try dsimp only)
                rw [if_pos ⟨by omega, by omega⟩]
              have eP : pN (A 18) (F 5) FIX (0, F 6) = ((0, a18), v18) := by unfold pN; rw [hw17n, hw18n]
              have eH : pH (A 18) (F 5) (0, F 6) = ((1, a20), h20) := by
                unfold pH
                rw [eP]
                (try dsimp only)
                rw [hw19n]
                rw [hw20n]
              have eT : tB (A 18) (F 5) i (0, F 6) = (1, a20) := by rw [(eN_0 hk).2, eH]
              have eS : eN (A 18) (F 5) i (0, F 6) = (1, a20) := by rw [(eN_0 hk).1, eT, tS_f]
              exact ⟨eS, fun z => absurd z (by decide)⟩
            · refine R_s (P := True) (f' := (59, [some (vR 17), some (vR 20), some (vI x)], [vI 1], LAY (u (u (u (u (u (u (u (u A 23 (A 23)) 25 (A 25)) 27 (A 27)) 28 (A 28)) 26 (wr (A 26) x 0)) 21 (wr (A 21) x 0)) 22 (wr (A 22) x v18)) 24 h3_20) (u (u F 6 a20) 7 v20), 0, 0)) hc40 2 rfl trivial ?_
              refine R_retz hc40 rfl rfl (Or.inr rfl) ?_
              refine R_s (f' := (44, [some (vR 17), some (vR 20), some (vI x), some (vI 0), some (vI (nx (A 18) (F 5) (F 6)))], [vI 1], LAY (u (u (u (u (u (u (u (u A 23 (A 23)) 25 (A 25)) 27 (A 27)) 28 (A 28)) 26 (wr (A 26) x 0)) 21 (wr (A 21) x 0)) 22 (wr (A 22) x v18)) 24 h3_20) (u (u F 6 a20) 7 v20), 0, 0)) hc39 0 rfl trivial ?_
              refine R_if (t := 60) hc39 rfl rfl (fun (z : 1 = 0) => absurd z (by decide)) (fun (_ : ¬ (1 = 0)) => ?_)
              refine R_s (P := True) (f' := (50, [some (vR 17), some (vR 20), some (vI x), some (vI 0), some (vI (nx (A 18) (F 5) (F 6)))], [vI x, vR 20, vR 17], LAY (u (u (u (u (u (u (u (u A 23 (A 23)) 25 (A 25)) 27 (A 27)) 28 (A 28)) 26 (wr (A 26) x 0)) 21 (wr (A 21) x 0)) 22 (wr (A 22) x v18)) 24 h3_20) (u (u F 6 a20) 7 v20), 0, 0)) hc39 3 rfl trivial ?_
              refine R_cv hc39 rfl rfl (l_rtest0 (A := (u (u (u (u (u (u (u (u A 23 (A 23)) 25 (A 25)) 27 (A 27)) 28 (A 28)) 26 (wr (A 26) x 0)) 21 (wr (A 21) x 0)) 22 (wr (A 22) x v18)) 24 h3_20)) (F := (u (u F 6 a20) 7 v20)) (LENS_u (LENS_u (LENS_u (LENS_u (LENS_u (LENS_u (LENS_u (LENS_u hL (by show (A 23).length = (A 23).length; omega)) (by show (A 25).length = (A 25).length; omega)) (by show (A 27).length = (A 27).length; omega)) (by show (A 28).length = (A 28).length; omega)) (by show (wr (A 26) x 0).length = (A 26).length; simp only [wr_len])) (by show (wr (A 21) x 0).length = (A 21).length; simp only [wr_len])) (by show (wr (A 22) x v18).length = (A 22).length; simp only [wr_len])) (by show (h3_20).length = (A 24).length; omega)) h5 ⟨by (show 0 ≤ a20); omega, by (show a20 ≤ F 5); omega⟩ ex hi (by show rd (wr (A 26) x 0) i = 0; rw [← ex]; exact rd_wr_s (by omega) (by omega))) (fun r G9 hp9 => ?_)
              obtain ⟨b21, s5_21, s6_21, s7_21, a21, v21, rfl, rfl, l21_5, l21_6, l21_7, hb21, p21, q21, kp21_5, kp21_6, kp21_7, hw21, hv21⟩ := hp9
              have q21 : a21 ≤ F 5 := q21
              have kp21_5 : ∀ q : Nat, q ≠ i → rd s5_21 q = rd (wr (A 26) x 0) q := kp21_5
              have kp21_6 : ∀ q : Nat, q ≠ i → rd s6_21 q = rd (A 27) q := kp21_6
              have kp21_7 : ∀ q : Nat, q ≠ i → rd s7_21 q = rd (A 28) q := kp21_7
              refine R_s (f' := (53, [some (vR 17), some (vR 20), some (vI x), some (vI 0), some (vI (nx (A 18) (F 5) (F 6)))], [vI b21], LAY (u (u (u (u (u (u (u (u A 23 (A 23)) 25 (A 25)) 21 (wr (A 21) x 0)) 22 (wr (A 22) x v18)) 24 h3_20) 26 s5_21) 27 s6_21) 28 s7_21) (u (u F 6 a21) 7 v21), 0, 0)) hc39 0 rfl trivial ?_
              refine R_if (t := 60) hc39 rfl rfl (fun (c24 : b21 = 0) => ?_) (fun (c24 : ¬ (b21 = 0)) => ?_)
              · refine R_s (P := True) (f' := (61, [some (vR 17), some (vR 20), some (vI x), some (vI 0), some (vI (nx (A 18) (F 5) (F 6)))], [vI 0], LAY (u (u (u (u (u (u (u (u A 23 (A 23)) 25 (A 25)) 21 (wr (A 21) x 0)) 22 (wr (A 22) x v18)) 24 h3_20) 26 s5_21) 27 s6_21) 28 s7_21) (u (u F 6 a21) 7 v21), 0, 0)) hc39 1 rfl trivial ?_
                refine R_retz hc39 rfl rfl (Or.inl rfl) ⟨0, wr (A 21) x 0, wr (A 22) x v18, A 23, h3_20, A 25, s5_21, s6_21, s7_21, a21, v21, rfl, rfl, (by (try simp only [wr_len]); omega), (by (try simp only [wr_len]); omega), (by (try simp only [wr_len]); omega), (by (try simp only [wr_len]); omega), (by (try simp only [wr_len]); omega), (by (try simp only [wr_len]); omega), (by (try simp only [wr_len]); omega), (by (try simp only [wr_len]); omega), by decide, by omega, by omega, fun q hq => by rw [rd_wr_n (by omega) (by omega) (by omega)], fun q hq => by rw [rd_wr_n (by omega) (by omega) (by omega)], fun _ _ => rfl, fun q hq => by rw [kp20 q hq], fun _ _ => rfl, fun q hq => by rw [kp21_5 q hq, rd_wr_n (by omega) (by omega) (by omega)], fun q hq => by rw [kp21_6 q hq], fun q hq => by rw [kp21_7 q hq], ?_⟩
                have ehw17 : b17 = 1 := by omega
                rw [ehw17] at hw17
                have hw17n : wD (A 18) (F 5) FIX (0, F 6) = (0, a17) := hw17
                have ehw18 : b18 = 1 := by omega
                rw [ehw18] at hw18
                have hw18n : dG (A 18) (F 5) 4 (0, a17) = ((0, a18), v18) := hw18
                have ehw19 : b19 = 1 := by omega
                rw [ehw19] at hw19
                have hw19n : wD (A 18) (F 5) SPC (0, a18) = (0, a19) := hw19
                have ehw20 : b20 = 1 := by omega
                rw [ehw20] at hw20
                have hw20n : hS (A 18) (F 5) (0, a19) = ((0, a20), h20) := hw20
                have ehw21 : b21 = 0 := by omega
                rw [ehw21] at hw21
                have hw21n : tS (A 18) (F 5) (0, a20) = (1, a21) := hw21
                have hk : eK (A 18) (F 5) i (0, F 6) = 0 := by
                  unfold eK
                  (try dsimp only)
                  rw [if_pos ⟨by omega, by omega⟩]
                have eP : pN (A 18) (F 5) FIX (0, F 6) = ((0, a18), v18) := by unfold pN; rw [hw17n, hw18n]
                have eH : pH (A 18) (F 5) (0, F 6) = ((0, a20), h20) := by
                  unfold pH
                  rw [eP]
                  (try dsimp only)
                  rw [hw19n]
                  rw [hw20n]
                have eT : tB (A 18) (F 5) i (0, F 6) = (0, a20) := by rw [(eN_0 hk).2, eH]
                have eS : eN (A 18) (F 5) i (0, F 6) = (1, a21) := by rw [(eN_0 hk).1, eT]; exact hw21n
                exact ⟨eS, fun z => absurd z (by decide)⟩
              · refine R_s (P := True) (f' := (61, [some (vR 17), some (vR 20), some (vI x), some (vI 0), some (vI (nx (A 18) (F 5) (F 6)))], [vI 1], LAY (u (u (u (u (u (u (u (u A 23 (A 23)) 25 (A 25)) 21 (wr (A 21) x 0)) 22 (wr (A 22) x v18)) 24 h3_20) 26 s5_21) 27 s6_21) 28 s7_21) (u (u F 6 a21) 7 v21), 0, 0)) hc39 2 rfl trivial ?_
                refine R_retz hc39 rfl rfl (Or.inr rfl) ⟨1, wr (A 21) x 0, wr (A 22) x v18, A 23, h3_20, A 25, s5_21, s6_21, s7_21, a21, v21, rfl, rfl, (by (try simp only [wr_len]); omega), (by (try simp only [wr_len]); omega), (by (try simp only [wr_len]); omega), (by (try simp only [wr_len]); omega), (by (try simp only [wr_len]); omega), (by (try simp only [wr_len]); omega), (by (try simp only [wr_len]); omega), (by (try simp only [wr_len]); omega), by decide, by omega, by omega, fun q hq => by rw [rd_wr_n (by omega) (by omega) (by omega)], fun q hq => by rw [rd_wr_n (by omega) (by omega) (by omega)], fun _ _ => rfl, fun q hq => by rw [kp20 q hq], fun _ _ => rfl, fun q hq => by rw [kp21_5 q hq, rd_wr_n (by omega) (by omega) (by omega)], fun q hq => by rw [kp21_6 q hq], fun q hq => by rw [kp21_7 q hq], ?_⟩
                have ehw17 : b17 = 1 := by omega
                rw [ehw17] at hw17
                have hw17n : wD (A 18) (F 5) FIX (0, F 6) = (0, a17) := hw17
                have ehw18 : b18 = 1 := by omega
                rw [ehw18] at hw18
                have hw18n : dG (A 18) (F 5) 4 (0, a17) = ((0, a18), v18) := hw18
                have ehw19 : b19 = 1 := by omega
                rw [ehw19] at hw19
                have hw19n : wD (A 18) (F 5) SPC (0, a18) = (0, a19) := hw19
                have ehw20 : b20 = 1 := by omega
                rw [ehw20] at hw20
                have hw20n : hS (A 18) (F 5) (0, a19) = ((0, a20), h20) := hw20
                have ehw21 : b21 = 1 := by omega
                rw [ehw21] at hw21
                have hw21n : tS (A 18) (F 5) (0, a20) = (0, a21) := hw21
                have hk : eK (A 18) (F 5) i (0, F 6) = 0 := by
                  unfold eK
                  (try dsimp only)
                  rw [if_pos ⟨by omega, by omega⟩]
                have eP : pN (A 18) (F 5) FIX (0, F 6) = ((0, a18), v18) := by unfold pN; rw [hw17n, hw18n]
                have eH : pH (A 18) (F 5) (0, F 6) = ((0, a20), h20) := by
                  unfold pH
                  rw [eP]
                  (try dsimp only)
                  rw [hw19n]
                  rw [hw20n]
                have eT : tB (A 18) (F 5) i (0, F 6) = (0, a20) := by rw [(eN_0 hk).2, eH]
                have eS : eN (A 18) (F 5) i (0, F 6) = (0, a21) := by rw [(eN_0 hk).1, eT]; exact hw21n
                have r0 : rd (wr (A 21) x 0) i = 0 := by rw [← ex]; exact rd_wr_s (by omega) (by (try simp only [wr_len]); omega)
                have r1 : rd (wr (A 22) x v18) i = v18 := by rw [← ex]; exact rd_wr_s (by omega) (by (try simp only [wr_len]); omega)
                exact ⟨eS, fun _ => ⟨by rw [r0, hk], fun _ => ⟨by rw [r1, eP], by rw [eH]; exact hv20 (by omega)⟩, fun z => absurd z (by rw [r0]; decide), fun z => absurd z (by rw [r0]; decide), fun z => absurd z (by rw [r0]; decide), fun _ => by
                  rw [eT]
                  have z := hv21 (by omega)
                  exact ⟨z.1, z.2.imp (fun w => by rw [z.1, w]; rfl) id⟩⟩⟩
        · refine R_s (P := True) (f' := (25, [some (vR 17), some (vR 20), some (vI x)], [vI 0], LAY (u (u (u (u (u (u (u (u A 22 (A 22)) 23 (A 23)) 24 (A 24)) 25 (A 25)) 27 (A 27)) 28 (A 28)) 26 (wr (A 26) x 0)) 21 (wr (A 21) x 0)) (u (u F 6 a18) 7 v18), 0, 0)) hc40 1 rfl trivial ?_
          refine R_retz hc40 rfl rfl (Or.inl rfl) ?_
          refine R_s (f' := (44, [some (vR 17), some (vR 20), some (vI x), some (vI 0), some (vI (nx (A 18) (F 5) (F 6)))], [vI 0], LAY (u (u (u (u (u (u (u (u A 22 (A 22)) 23 (A 23)) 24 (A 24)) 25 (A 25)) 27 (A 27)) 28 (A 28)) 26 (wr (A 26) x 0)) 21 (wr (A 21) x 0)) (u (u F 6 a18) 7 v18), 0, 0)) hc39 0 rfl trivial ?_
          refine R_if (t := 60) hc39 rfl rfl (fun (_ : 0 = 0) => ?_) (fun (z : ¬ (0 = 0)) => absurd (by decide) z)
          refine R_s (P := True) (f' := (61, [some (vR 17), some (vR 20), some (vI x), some (vI 0), some (vI (nx (A 18) (F 5) (F 6)))], [vI 0], LAY (u (u (u (u (u (u (u (u A 22 (A 22)) 23 (A 23)) 24 (A 24)) 25 (A 25)) 27 (A 27)) 28 (A 28)) 26 (wr (A 26) x 0)) 21 (wr (A 21) x 0)) (u (u F 6 a18) 7 v18), 0, 0)) hc39 1 rfl trivial ?_
          refine R_retz hc39 rfl rfl (Or.inl rfl) ⟨0, wr (A 21) x 0, A 22, A 23, A 24, A 25, wr (A 26) x 0, A 27, A 28, a18, v18, rfl, rfl, (by (try simp only [wr_len]); omega), (by (try simp only [wr_len]); omega), (by (try simp only [wr_len]); omega), (by (try simp only [wr_len]); omega), (by (try simp only [wr_len]); omega), (by (try simp only [wr_len]); omega), (by (try simp only [wr_len]); omega), (by (try simp only [wr_len]); omega), by decide, by omega, by omega, fun q hq => by rw [rd_wr_n (by omega) (by omega) (by omega)], fun _ _ => rfl, fun _ _ => rfl, fun _ _ => rfl, fun _ _ => rfl, fun q hq => by rw [rd_wr_n (by omega) (by omega) (by omega)], fun _ _ => rfl, fun _ _ => rfl, ?_⟩
          have ehw17 : b17 = 1 := by omega
          rw [ehw17] at hw17
          have hw17n : wD (A 18) (F 5) FIX (0, F 6) = (0, a17) := hw17
          have ehw18 : b18 = 0 := by omega
          rw [ehw18] at hw18
          have hw18n : dG (A 18) (F 5) 4 (0, a17) = ((1, a18), v18) := hw18
          have hk : eK (A 18) (F 5) i (0, F 6) = 0 := by
            unfold eK
            (try dsimp only)
            rw [if_pos ⟨by omega, by omega⟩]
          have eP : pN (A 18) (F 5) FIX (0, F 6) = ((1, a18), v18) := by unfold pN; rw [hw17n, hw18n]
          have eH : pH (A 18) (F 5) (0, F 6) = ((1, a18), 0) := by
            unfold pH
            rw [eP]
            (try dsimp only)
            rw [wD_f]
            rw [hS_f]
          have eT : tB (A 18) (F 5) i (0, F 6) = (1, a18) := by rw [(eN_0 hk).2, eH]
          have eS : eN (A 18) (F 5) i (0, F 6) = (1, a18) := by rw [(eN_0 hk).1, eT, tS_f]
          exact ⟨eS, fun z => absurd z (by decide)⟩
  · refine R_s (P := True) (f' := (22, [some (vR 17), some (vR 20), some (vI x), some (vI 1), none], [vR 17], LAY (u (u (u (u (u (u (u (u A 21 (A 21)) 22 (A 22)) 23 (A 23)) 24 (A 24)) 25 (A 25)) 27 (A 27)) 28 (A 28)) 26 (wr (A 26) x 0)) (u (u F 6 (F 6)) 7 (F 7)), 0, 0)) hc39 4 rfl trivial ?_
    refine R_cv hc39 rfl rfl (l_next (A := (u (u (u (u (u (u (u (u A 21 (A 21)) 22 (A 22)) 23 (A 23)) 24 (A 24)) 25 (A 25)) 27 (A 27)) 28 (A 28)) 26 (wr (A 26) x 0))) (F := (u (u F 6 (F 6)) 7 (F 7))) (LENS_u (LENS_u (LENS_u (LENS_u (LENS_u (LENS_u (LENS_u (LENS_u hL (by show (A 21).length = (A 21).length; omega)) (by show (A 22).length = (A 22).length; omega)) (by show (A 23).length = (A 23).length; omega)) (by show (A 24).length = (A 24).length; omega)) (by show (A 25).length = (A 25).length; omega)) (by show (A 27).length = (A 27).length; omega)) (by show (A 28).length = (A 28).length; omega)) (by show (wr (A 26) x 0).length = (A 26).length; simp only [wr_len])) h5 ⟨by (show 0 ≤ F 6); omega, by (show F 6 ≤ F 5); omega⟩) (fun r G9 hp9 => ?_)
    obtain ⟨e1, rfl⟩ := hp9
    have e2 : r = some (vI (nx (A 18) (F 5) (F 6))) := e1
    clear e1
    subst e2
    refine R_s (f' := (25, [some (vR 17), some (vR 20), some (vI x), some (vI 1), none], [vI (nx (A 18) (F 5) (F 6))], LAY (u (u (u (u (u (u (u (u A 21 (A 21)) 22 (A 22)) 23 (A 23)) 24 (A 24)) 25 (A 25)) 27 (A 27)) 28 (A 28)) 26 (wr (A 26) x 0)) (u (u F 6 (F 6)) 7 (F 7)), 0, 0)) hc39 0 rfl trivial ?_
    refine R_s (P := True) (f' := (31, [some (vR 17), some (vR 20), some (vI x), some (vI 1), some (vI (nx (A 18) (F 5) (F 6)))], [vI 102, vI (nx (A 18) (F 5) (F 6))], LAY (u (u (u (u (u (u (u (u A 21 (A 21)) 22 (A 22)) 23 (A 23)) 24 (A 24)) 25 (A 25)) 27 (A 27)) 28 (A 28)) 26 (wr (A 26) x 0)) (u (u F 6 (F 6)) 7 (F 7)), 0, 0)) hc39 3 rfl trivial ?_
    refine R_ic (t := 62) hc39 rfl rfl (fun (c24 : ¬ nx (A 18) (F 5) (F 6) = 102) => ?_) (fun (c24 : ¬ (¬ nx (A 18) (F 5) (F 6) = 102)) => ?_)
    · refine R_s (P := True) (f' := (66, [some (vR 17), some (vR 20), some (vI x), some (vI 1), some (vI (nx (A 18) (F 5) (F 6)))], [vI 108, vI (nx (A 18) (F 5) (F 6))], LAY (u (u (u (u (u (u (u (u A 21 (A 21)) 22 (A 22)) 23 (A 23)) 24 (A 24)) 25 (A 25)) 27 (A 27)) 28 (A 28)) 26 (wr (A 26) x 0)) (u (u F 6 (F 6)) 7 (F 7)), 0, 0)) hc39 2 rfl trivial ?_
      refine R_ic (t := 97) hc39 rfl rfl (fun (c25 : ¬ nx (A 18) (F 5) (F 6) = 108) => ?_) (fun (c25 : ¬ (¬ nx (A 18) (F 5) (F 6) = 108)) => ?_)
      · refine R_s (P := True) (f' := (101, [some (vR 17), some (vR 20), some (vI x), some (vI 1), some (vI (nx (A 18) (F 5) (F 6)))], [vI 109, vI (nx (A 18) (F 5) (F 6))], LAY (u (u (u (u (u (u (u (u A 21 (A 21)) 22 (A 22)) 23 (A 23)) 24 (A 24)) 25 (A 25)) 27 (A 27)) 28 (A 28)) 26 (wr (A 26) x 0)) (u (u F 6 (F 6)) 7 (F 7)), 0, 0)) hc39 2 rfl trivial ?_
        refine R_ic (t := 132) hc39 rfl rfl (fun (c26 : ¬ nx (A 18) (F 5) (F 6) = 109) => ?_) (fun (c26 : ¬ (¬ nx (A 18) (F 5) (F 6) = 109)) => ?_)
        · refine R_s (P := True) (f' := (135, [some (vR 17), some (vR 20), some (vI x), some (vI 1), some (vI (nx (A 18) (F 5) (F 6)))], [vI x, vR 20, vR 17], LAY (u (u (u (u (u (u (u (u A 21 (A 21)) 22 (A 22)) 23 (A 23)) 24 (A 24)) 25 (A 25)) 27 (A 27)) 28 (A 28)) 26 (wr (A 26) x 0)) (u (u F 6 (F 6)) 7 (F 7)), 0, 0)) hc39 3 rfl trivial ?_
          refine R_cv hc39 rfl rfl (l_rrest0 (A := (u (u (u (u (u (u (u (u A 21 (A 21)) 22 (A 22)) 23 (A 23)) 24 (A 24)) 25 (A 25)) 27 (A 27)) 28 (A 28)) 26 (wr (A 26) x 0))) (F := (u (u F 6 (F 6)) 7 (F 7))) (LENS_u (LENS_u (LENS_u (LENS_u (LENS_u (LENS_u (LENS_u (LENS_u hL (by show (A 21).length = (A 21).length; omega)) (by show (A 22).length = (A 22).length; omega)) (by show (A 23).length = (A 23).length; omega)) (by show (A 24).length = (A 24).length; omega)) (by show (A 25).length = (A 25).length; omega)) (by show (A 27).length = (A 27).length; omega)) (by show (A 28).length = (A 28).length; omega)) (by show (wr (A 26) x 0).length = (A 26).length; simp only [wr_len])) h5 ⟨by (show 0 ≤ F 6); omega, by (show F 6 ≤ F 5); omega⟩ ex hi) (fun r G9 hp9 => ?_)
          obtain ⟨b22, g0_22, g3_22, a22, v22, rfl, rfl, l22_0, l22_3, hb22, p22, q22, kp22_0, kp22_3, hw22, r22, hv22⟩ := hp9
          have q22 : a22 ≤ F 5 := q22
          have kp22_0 : ∀ q : Nat, q ≠ i → rd g0_22 q = rd (A 21) q := kp22_0
          have kp22_3 : ∀ q : Nat, q ≠ i → rd g3_22 q = rd (A 24) q := kp22_3
          refine R_s (f' := (138, [some (vR 17), some (vR 20), some (vI x), some (vI 1), some (vI (nx (A 18) (F 5) (F 6)))], [vI b22], LAY (u (u (u (u (u (u (u (u A 22 (A 22)) 23 (A 23)) 25 (A 25)) 27 (A 27)) 28 (A 28)) 26 (wr (A 26) x 0)) 21 g0_22) 24 g3_22) (u (u F 6 a22) 7 v22), 0, 0)) hc39 0 rfl trivial ?_
          refine R_retz hc39 rfl rfl (by omega) ⟨b22, g0_22, A 22, A 23, g3_22, A 25, wr (A 26) x 0, A 27, A 28, a22, v22, rfl, rfl, (by (try simp only [wr_len]); omega), (by (try simp only [wr_len]); omega), (by (try simp only [wr_len]); omega), (by (try simp only [wr_len]); omega), (by (try simp only [wr_len]); omega), (by (try simp only [wr_len]); omega), (by (try simp only [wr_len]); omega), (by (try simp only [wr_len]); omega), hb22, by omega, by omega, fun q hq => by rw [kp22_0 q hq], fun _ _ => rfl, fun _ _ => rfl, fun q hq => by rw [kp22_3 q hq], fun _ _ => rfl, fun q hq => by rw [rd_wr_n (by omega) (by omega) (by omega)], fun _ _ => rfl, fun _ _ => rfl, ?_⟩
          have hk : eK (A 18) (F 5) i (0, F 6) = 3 := by
            unfold eK
            (try dsimp only)
            rw [if_neg (fun z => by omega)]
            rw [if_neg (fun z => by omega)]
            rw [if_neg (fun z => by omega)]
          have eS : eN (A 18) (F 5) i (0, F 6) = (1 - b22, a22) := by rw [eN_3 hk]; exact hw22
          have r0 : rd (g0_22) i = 3 := r22
          have z5 : rd (wr (A 26) x 0) i = 0 := by rw [← ex]; exact rd_wr_s (by omega) (by omega)
          exact ⟨eS, fun y => ⟨by rw [r0, hk], fun z => absurd z (by rw [r0]; decide), fun z => absurd z (by rw [r0]; decide), fun z => absurd z (by rw [r0]; decide), fun _ => ⟨hv22 y, z5⟩, fun z => absurd r0 z⟩⟩
        · refine R_s (P := True) (f' := (105, [some (vR 17), some (vR 20), some (vI x), some (vI 1), some (vI (nx (A 18) (F 5) (F 6)))], [vI x], LAY (u (u (u (u (u (u (u (u A 21 (A 21)) 22 (A 22)) 23 (A 23)) 24 (A 24)) 25 (A 25)) 27 (A 27)) 28 (A 28)) 26 (wr (A 26) x 0)) (u (u F 6 (F 6)) 7 (F 7)), 0, 0)) hc39 1 rfl trivial ?_
          refine R_if (t := 132) hc39 rfl rfl (fun (_ : ¬ x = 0) => ?_) (fun (z : ¬ (¬ x = 0)) => absurd (show ¬ x = 0 by omega) z)
          refine R_s (P := True) (f' := (135, [some (vR 17), some (vR 20), some (vI x), some (vI 1), some (vI (nx (A 18) (F 5) (F 6)))], [vI x, vR 20, vR 17], LAY (u (u (u (u (u (u (u (u A 21 (A 21)) 22 (A 22)) 23 (A 23)) 24 (A 24)) 25 (A 25)) 27 (A 27)) 28 (A 28)) 26 (wr (A 26) x 0)) (u (u F 6 (F 6)) 7 (F 7)), 0, 0)) hc39 3 rfl trivial ?_
          refine R_cv hc39 rfl rfl (l_rrest0 (A := (u (u (u (u (u (u (u (u A 21 (A 21)) 22 (A 22)) 23 (A 23)) 24 (A 24)) 25 (A 25)) 27 (A 27)) 28 (A 28)) 26 (wr (A 26) x 0))) (F := (u (u F 6 (F 6)) 7 (F 7))) (LENS_u (LENS_u (LENS_u (LENS_u (LENS_u (LENS_u (LENS_u (LENS_u hL (by show (A 21).length = (A 21).length; omega)) (by show (A 22).length = (A 22).length; omega)) (by show (A 23).length = (A 23).length; omega)) (by show (A 24).length = (A 24).length; omega)) (by show (A 25).length = (A 25).length; omega)) (by show (A 27).length = (A 27).length; omega)) (by show (A 28).length = (A 28).length; omega)) (by show (wr (A 26) x 0).length = (A 26).length; simp only [wr_len])) h5 ⟨by (show 0 ≤ F 6); omega, by (show F 6 ≤ F 5); omega⟩ ex hi) (fun r G9 hp9 => ?_)
          obtain ⟨b23, g0_23, g3_23, a23, v23, rfl, rfl, l23_0, l23_3, hb23, p23, q23, kp23_0, kp23_3, hw23, r23, hv23⟩ := hp9
          have q23 : a23 ≤ F 5 := q23
          have kp23_0 : ∀ q : Nat, q ≠ i → rd g0_23 q = rd (A 21) q := kp23_0
          have kp23_3 : ∀ q : Nat, q ≠ i → rd g3_23 q = rd (A 24) q := kp23_3
          refine R_s (f' := (138, [some (vR 17), some (vR 20), some (vI x), some (vI 1), some (vI (nx (A 18) (F 5) (F 6)))], [vI b23], LAY (u (u (u (u (u (u (u (u A 22 (A 22)) 23 (A 23)) 25 (A 25)) 27 (A 27)) 28 (A 28)) 26 (wr (A 26) x 0)) 21 g0_23) 24 g3_23) (u (u F 6 a23) 7 v23), 0, 0)) hc39 0 rfl trivial ?_
          refine R_retz hc39 rfl rfl (by omega) ⟨b23, g0_23, A 22, A 23, g3_23, A 25, wr (A 26) x 0, A 27, A 28, a23, v23, rfl, rfl, (by (try simp only [wr_len]); omega), (by (try simp only [wr_len]); omega), (by (try simp only [wr_len]); omega), (by (try simp only [wr_len]); omega), (by (try simp only [wr_len]); omega), (by (try simp only [wr_len]); omega), (by (try simp only [wr_len]); omega), (by (try simp only [wr_len]); omega), hb23, by omega, by omega, fun q hq => by rw [kp23_0 q hq], fun _ _ => rfl, fun _ _ => rfl, fun q hq => by rw [kp23_3 q hq], fun _ _ => rfl, fun q hq => by rw [rd_wr_n (by omega) (by omega) (by omega)], fun _ _ => rfl, fun _ _ => rfl, ?_⟩
          have hk : eK (A 18) (F 5) i (0, F 6) = 3 := by
            unfold eK
            (try dsimp only)
            rw [if_neg (fun z => by omega)]
            rw [if_neg (fun z => by omega)]
            rw [if_neg (fun z => by omega)]
          have eS : eN (A 18) (F 5) i (0, F 6) = (1 - b23, a23) := by rw [eN_3 hk]; exact hw23
          have r0 : rd (g0_23) i = 3 := r23
          have z5 : rd (wr (A 26) x 0) i = 0 := by rw [← ex]; exact rd_wr_s (by omega) (by omega)
          exact ⟨eS, fun y => ⟨by rw [r0, hk], fun z => absurd z (by rw [r0]; decide), fun z => absurd z (by rw [r0]; decide), fun z => absurd z (by rw [r0]; decide), fun _ => ⟨hv23 y, z5⟩, fun z => absurd r0 z⟩⟩
      · refine R_s (P := True) (f' := (70, [some (vR 17), some (vR 20), some (vI x), some (vI 1), some (vI (nx (A 18) (F 5) (F 6)))], [vI 1], LAY (u (u (u (u (u (u (u (u A 21 (A 21)) 22 (A 22)) 23 (A 23)) 24 (A 24)) 25 (A 25)) 27 (A 27)) 28 (A 28)) 26 (wr (A 26) x 0)) (u (u F 6 (F 6)) 7 (F 7)), 0, 0)) hc39 1 rfl trivial ?_
        refine R_if (t := 97) hc39 rfl rfl (fun (_ : ¬ 1 = 0) => ?_) (fun (z : ¬ (¬ 1 = 0)) => absurd (by decide) z)
        refine R_s (P := True) (f' := (101, [some (vR 17), some (vR 20), some (vI x), some (vI 1), some (vI (nx (A 18) (F 5) (F 6)))], [vI 109, vI (nx (A 18) (F 5) (F 6))], LAY (u (u (u (u (u (u (u (u A 21 (A 21)) 22 (A 22)) 23 (A 23)) 24 (A 24)) 25 (A 25)) 27 (A 27)) 28 (A 28)) 26 (wr (A 26) x 0)) (u (u F 6 (F 6)) 7 (F 7)), 0, 0)) hc39 2 rfl trivial ?_
        refine R_ic (t := 132) hc39 rfl rfl (fun (_ : ¬ nx (A 18) (F 5) (F 6) = 109) => ?_) (fun (z : ¬ (¬ nx (A 18) (F 5) (F 6) = 109)) => absurd (show ¬ nx (A 18) (F 5) (F 6) = 109 by omega) z)
        refine R_s (P := True) (f' := (135, [some (vR 17), some (vR 20), some (vI x), some (vI 1), some (vI (nx (A 18) (F 5) (F 6)))], [vI x, vR 20, vR 17], LAY (u (u (u (u (u (u (u (u A 21 (A 21)) 22 (A 22)) 23 (A 23)) 24 (A 24)) 25 (A 25)) 27 (A 27)) 28 (A 28)) 26 (wr (A 26) x 0)) (u (u F 6 (F 6)) 7 (F 7)), 0, 0)) hc39 3 rfl trivial ?_
        refine R_cv hc39 rfl rfl (l_rrest0 (A := (u (u (u (u (u (u (u (u A 21 (A 21)) 22 (A 22)) 23 (A 23)) 24 (A 24)) 25 (A 25)) 27 (A 27)) 28 (A 28)) 26 (wr (A 26) x 0))) (F := (u (u F 6 (F 6)) 7 (F 7))) (LENS_u (LENS_u (LENS_u (LENS_u (LENS_u (LENS_u (LENS_u (LENS_u hL (by show (A 21).length = (A 21).length; omega)) (by show (A 22).length = (A 22).length; omega)) (by show (A 23).length = (A 23).length; omega)) (by show (A 24).length = (A 24).length; omega)) (by show (A 25).length = (A 25).length; omega)) (by show (A 27).length = (A 27).length; omega)) (by show (A 28).length = (A 28).length; omega)) (by show (wr (A 26) x 0).length = (A 26).length; simp only [wr_len])) h5 ⟨by (show 0 ≤ F 6); omega, by (show F 6 ≤ F 5); omega⟩ ex hi) (fun r G9 hp9 => ?_)
        obtain ⟨b24, g0_24, g3_24, a24, v24, rfl, rfl, l24_0, l24_3, hb24, p24, q24, kp24_0, kp24_3, hw24, r24, hv24⟩ := hp9
        have q24 : a24 ≤ F 5 := q24
        have kp24_0 : ∀ q : Nat, q ≠ i → rd g0_24 q = rd (A 21) q := kp24_0
        have kp24_3 : ∀ q : Nat, q ≠ i → rd g3_24 q = rd (A 24) q := kp24_3
        refine R_s (f' := (138, [some (vR 17), some (vR 20), some (vI x), some (vI 1), some (vI (nx (A 18) (F 5) (F 6)))], [vI b24], LAY (u (u (u (u (u (u (u (u A 22 (A 22)) 23 (A 23)) 25 (A 25)) 27 (A 27)) 28 (A 28)) 26 (wr (A 26) x 0)) 21 g0_24) 24 g3_24) (u (u F 6 a24) 7 v24), 0, 0)) hc39 0 rfl trivial ?_
        refine R_retz hc39 rfl rfl (by omega) ⟨b24, g0_24, A 22, A 23, g3_24, A 25, wr (A 26) x 0, A 27, A 28, a24, v24, rfl, rfl, (by (try simp only [wr_len]); omega), (by (try simp only [wr_len]); omega), (by (try simp only [wr_len]); omega), (by (try simp only [wr_len]); omega), (by (try simp only [wr_len]); omega), (by (try simp only [wr_len]); omega), (by (try simp only [wr_len]); omega), (by (try simp only [wr_len]); omega), hb24, by omega, by omega, fun q hq => by rw [kp24_0 q hq], fun _ _ => rfl, fun _ _ => rfl, fun q hq => by rw [kp24_3 q hq], fun _ _ => rfl, fun q hq => by rw [rd_wr_n (by omega) (by omega) (by omega)], fun _ _ => rfl, fun _ _ => rfl, ?_⟩
        have hk : eK (A 18) (F 5) i (0, F 6) = 3 := by
          unfold eK
          (try dsimp only)
          rw [if_neg (fun z => by omega)]
          rw [if_neg (fun z => by omega)]
          rw [if_neg (fun z => by omega)]
        have eS : eN (A 18) (F 5) i (0, F 6) = (1 - b24, a24) := by rw [eN_3 hk]; exact hw24
        have r0 : rd (g0_24) i = 3 := r24
        have z5 : rd (wr (A 26) x 0) i = 0 := by rw [← ex]; exact rd_wr_s (by omega) (by omega)
        exact ⟨eS, fun y => ⟨by rw [r0, hk], fun z => absurd z (by rw [r0]; decide), fun z => absurd z (by rw [r0]; decide), fun z => absurd z (by rw [r0]; decide), fun _ => ⟨hv24 y, z5⟩, fun z => absurd r0 z⟩⟩
    · refine R_s (P := True) (f' := (35, [some (vR 17), some (vR 20), some (vI x), some (vI 1), some (vI (nx (A 18) (F 5) (F 6)))], [vI 1], LAY (u (u (u (u (u (u (u (u A 21 (A 21)) 22 (A 22)) 23 (A 23)) 24 (A 24)) 25 (A 25)) 27 (A 27)) 28 (A 28)) 26 (wr (A 26) x 0)) (u (u F 6 (F 6)) 7 (F 7)), 0, 0)) hc39 1 rfl trivial ?_
      refine R_if (t := 62) hc39 rfl rfl (fun (_ : ¬ 1 = 0) => ?_) (fun (z : ¬ (¬ 1 = 0)) => absurd (by decide) z)
      refine R_s (P := True) (f' := (66, [some (vR 17), some (vR 20), some (vI x), some (vI 1), some (vI (nx (A 18) (F 5) (F 6)))], [vI 108, vI (nx (A 18) (F 5) (F 6))], LAY (u (u (u (u (u (u (u (u A 21 (A 21)) 22 (A 22)) 23 (A 23)) 24 (A 24)) 25 (A 25)) 27 (A 27)) 28 (A 28)) 26 (wr (A 26) x 0)) (u (u F 6 (F 6)) 7 (F 7)), 0, 0)) hc39 2 rfl trivial ?_
      refine R_ic (t := 97) hc39 rfl rfl (fun (_ : ¬ nx (A 18) (F 5) (F 6) = 108) => ?_) (fun (z : ¬ (¬ nx (A 18) (F 5) (F 6) = 108)) => absurd (show ¬ nx (A 18) (F 5) (F 6) = 108 by omega) z)
      refine R_s (P := True) (f' := (101, [some (vR 17), some (vR 20), some (vI x), some (vI 1), some (vI (nx (A 18) (F 5) (F 6)))], [vI 109, vI (nx (A 18) (F 5) (F 6))], LAY (u (u (u (u (u (u (u (u A 21 (A 21)) 22 (A 22)) 23 (A 23)) 24 (A 24)) 25 (A 25)) 27 (A 27)) 28 (A 28)) 26 (wr (A 26) x 0)) (u (u F 6 (F 6)) 7 (F 7)), 0, 0)) hc39 2 rfl trivial ?_
      refine R_ic (t := 132) hc39 rfl rfl (fun (_ : ¬ nx (A 18) (F 5) (F 6) = 109) => ?_) (fun (z : ¬ (¬ nx (A 18) (F 5) (F 6) = 109)) => absurd (show ¬ nx (A 18) (F 5) (F 6) = 109 by omega) z)
      refine R_s (P := True) (f' := (135, [some (vR 17), some (vR 20), some (vI x), some (vI 1), some (vI (nx (A 18) (F 5) (F 6)))], [vI x, vR 20, vR 17], LAY (u (u (u (u (u (u (u (u A 21 (A 21)) 22 (A 22)) 23 (A 23)) 24 (A 24)) 25 (A 25)) 27 (A 27)) 28 (A 28)) 26 (wr (A 26) x 0)) (u (u F 6 (F 6)) 7 (F 7)), 0, 0)) hc39 3 rfl trivial ?_
      refine R_cv hc39 rfl rfl (l_rrest0 (A := (u (u (u (u (u (u (u (u A 21 (A 21)) 22 (A 22)) 23 (A 23)) 24 (A 24)) 25 (A 25)) 27 (A 27)) 28 (A 28)) 26 (wr (A 26) x 0))) (F := (u (u F 6 (F 6)) 7 (F 7))) (LENS_u (LENS_u (LENS_u (LENS_u (LENS_u (LENS_u (LENS_u (LENS_u hL (by show (A 21).length = (A 21).length; omega)) (by show (A 22).length = (A 22).length; omega)) (by show (A 23).length = (A 23).length; omega)) (by show (A 24).length = (A 24).length; omega)) (by show (A 25).length = (A 25).length; omega)) (by show (A 27).length = (A 27).length; omega)) (by show (A 28).length = (A 28).length; omega)) (by show (wr (A 26) x 0).length = (A 26).length; simp only [wr_len])) h5 ⟨by (show 0 ≤ F 6); omega, by (show F 6 ≤ F 5); omega⟩ ex hi) (fun r G9 hp9 => ?_)
      obtain ⟨b25, g0_25, g3_25, a25, v25, rfl, rfl, l25_0, l25_3, hb25, p25, q25, kp25_0, kp25_3, hw25, r25, hv25⟩ := hp9
      have q25 : a25 ≤ F 5 := q25
      have kp25_0 : ∀ q : Nat, q ≠ i → rd g0_25 q = rd (A 21) q := kp25_0
      have kp25_3 : ∀ q : Nat, q ≠ i → rd g3_25 q = rd (A 24) q := kp25_3
      refine R_s (f' := (138, [some (vR 17), some (vR 20), some (vI x), some (vI 1), some (vI (nx (A 18) (F 5) (F 6)))], [vI b25], LAY (u (u (u (u (u (u (u (u A 22 (A 22)) 23 (A 23)) 25 (A 25)) 27 (A 27)) 28 (A 28)) 26 (wr (A 26) x 0)) 21 g0_25) 24 g3_25) (u (u F 6 a25) 7 v25), 0, 0)) hc39 0 rfl trivial ?_
      refine R_retz hc39 rfl rfl (by omega) ⟨b25, g0_25, A 22, A 23, g3_25, A 25, wr (A 26) x 0, A 27, A 28, a25, v25, rfl, rfl, (by (try simp only [wr_len]); omega), (by (try simp only [wr_len]); omega), (by (try simp only [wr_len]); omega), (by (try simp only [wr_len]); omega), (by (try simp only [wr_len]); omega), (by (try simp only [wr_len]); omega), (by (try simp only [wr_len]); omega), (by (try simp only [wr_len]); omega), hb25, by omega, by omega, fun q hq => by rw [kp25_0 q hq], fun _ _ => rfl, fun _ _ => rfl, fun q hq => by rw [kp25_3 q hq], fun _ _ => rfl, fun q hq => by rw [rd_wr_n (by omega) (by omega) (by omega)], fun _ _ => rfl, fun _ _ => rfl, ?_⟩
      have hk : eK (A 18) (F 5) i (0, F 6) = 3 := by
        unfold eK
        (try dsimp only)
        rw [if_neg (fun z => by omega)]
        rw [if_neg (fun z => by omega)]
        rw [if_neg (fun z => by omega)]
      have eS : eN (A 18) (F 5) i (0, F 6) = (1 - b25, a25) := by rw [eN_3 hk]; exact hw25
      have r0 : rd (g0_25) i = 3 := r25
      have z5 : rd (wr (A 26) x 0) i = 0 := by rw [← ex]; exact rd_wr_s (by omega) (by omega)
      exact ⟨eS, fun y => ⟨by rw [r0, hk], fun z => absurd z (by rw [r0]; decide), fun z => absurd z (by rw [r0]; decide), fun z => absurd z (by rw [r0]; decide), fun _ => ⟨hv25 y, z5⟩, fun z => absurd r0 z⟩⟩
theorem l_rdeed0 {A : Nat → List Int} {F : Nat → Int} (hL : LENS A) (h5 : 0 ≤ F 5 ∧ F 5 ≤ 120) : R 38 (0, L0 38 [vR 17, vR 20], [], LAY A F, 0, 0) (fun r G => ∃ (c : Int) (q0 q1 q2 q3 q4 q5 q6 q7 : List Int) (a v e : Int), r = some (vI c) ∧ G = LAY (u (u (u (u (u (u (u (u A 21 q0) 22 q1) 23 q2) 24 q3) 25 q4) 26 q5) 27 q6) 28 q7) (u (u (u F 6 a) 7 v) 8 e) ∧ q0.length = 6 ∧ q1.length = 6 ∧ q2.length = 6 ∧ q3.length = 6 ∧ q4.length = 6 ∧ q5.length = 6 ∧ q6.length = 6 ∧ q7.length = 6 ∧ (0 ≤ a ∧ a ≤ F 5) ∧ ((c = 0 ∧ fAIL (A 18) (F 5) a) ∨ (c = 1 ∧ ∃ n : Nat, e = n ∧ sUCC (A 18) (F 5) n ∧ ∀ j : Nat, j < n → eV (A 18) (F 5) j (sT (A 18) (F 5) j) (rd q0 j) (rd q1 j) (rd q2 j) (rd q3 j) (rd q4 j) (rd q5 j) (rd q6 j) (rd q7 j)))) := by
  have d0 : (A 21).length = 6 := hL 21 (by decide)
  have d1 : (A 22).length = 6 := hL 22 (by decide)
  have d2 : (A 23).length = 6 := hL 23 (by decide)
  have d3 : (A 24).length = 6 := hL 24 (by decide)
  have d4 : (A 25).length = 6 := hL 25 (by decide)
  have d5 : (A 26).length = 6 := hL 26 (by decide)
  have d6 : (A 27).length = 6 := hL 27 (by decide)
  have d7 : (A 28).length = 6 := hL 28 (by decide)
  have lp : ∀ (m i : Nat) (x : Int) (m0 : List Int) (m1 : List Int) (m2 : List Int) (m3 : List Int) (m4 : List Int) (m5 : List Int) (m6 : List Int) (m7 : List Int) (pl : Int) (v : Int) (e : Int), x = (i : Int) → m0.length = 6 → m1.length = 6 → m2.length = 6 → m3.length = 6 → m4.length = 6 → m5.length = 6 → m6.length = 6 → m7.length = 6 → 0 ≤ pl ∧ pl ≤ F 5 → sT (A 18) (F 5) i = (0, pl) → gO (A 18) (F 5) i → (∀ j : Nat, j < i → eV (A 18) (F 5) j (sT (A 18) (F 5) j) (rd m0 j) (rd m1 j) (rd m2 j) (rd m3 j) (rd m4 j) (rd m5 j) (rd m6 j) (rd m7 j)) → i ≤ 6 → 6 + 1 ≤ i + m → R 38 (7, [some (vR 17), some (vR 20), some (vI x)], [], LAY (u (u (u (u (u (u (u (u A 21 m0) 22 m1) 23 m2) 24 m3) 25 m4) 26 m5) 27 m6) 28 m7) (u (u (u F 6 pl) 7 v) 8 e), 0, 0) (fun r G => ∃ (c : Int) (q0 q1 q2 q3 q4 q5 q6 q7 : List Int) (a v e : Int), r = some (vI c) ∧ G = LAY (u (u (u (u (u (u (u (u A 21 q0) 22 q1) 23 q2) 24 q3) 25 q4) 26 q5) 27 q6) 28 q7) (u (u (u F 6 a) 7 v) 8 e) ∧ q0.length = 6 ∧ q1.length = 6 ∧ q2.length = 6 ∧ q3.length = 6 ∧ q4.length = 6 ∧ q5.length = 6 ∧ q6.length = 6 ∧ q7.length = 6 ∧ (0 ≤ a ∧ a ≤ F 5) ∧ ((c = 0 ∧ fAIL (A 18) (F 5) a) ∨ (c = 1 ∧ ∃ n : Nat, e = n ∧ sUCC (A 18) (F 5) n ∧ ∀ j : Nat, j < n → eV (A 18) (F 5) j (sT (A 18) (F 5) j) (rd q0 j) (rd q1 j) (rd q2 j) (rd q3 j) (rd q4 j) (rd q5 j) (rd q6 j) (rd q7 j)))) := by
    intro m
    induction m with
    | zero =>
      intro i x m0 m1 m2 m3 m4 m5 m6 m7 pl v e ex lm0 lm1 lm2 lm3 lm4 lm5 lm6 lm7 hp hs hg hv hi hm
      exact absurd hm (by omega)
    | succ m ih =>
      intro i x m0 m1 m2 m3 m4 m5 m6 m7 pl v e ex lm0 lm1 lm2 lm3 lm4 lm5 lm6 lm7 hp hs hg hv hi hm
      refine R_s (P := True) (f' := (10, [some (vR 17), some (vR 20), some (vI x)], [vI 6, vI x], LAY (u (u (u (u (u (u (u (u A 21 m0) 22 m1) 23 m2) 24 m3) 25 m4) 26 m5) 27 m6) 28 m7) (u (u (u F 6 pl) 7 v) 8 e), 0, 0)) hc38 2 rfl trivial ?_
      refine R_ic (t := 75) hc38 rfl rfl (fun (c1 : 6 ≤ x) => ?_) (fun (c1 : ¬ (6 ≤ x)) => ?_)
      · refine R_s (P := True) (f' := (76, [some (vR 17), some (vR 20), some (vI x)], [vI 0], LAY (u (u (u (u (u (u (u (u A 21 m0) 22 m1) 23 m2) 24 m3) 25 m4) 26 m5) 27 m6) 28 m7) (u (u (u F 6 pl) 7 v) 8 e), 0, 0)) hc38 1 rfl trivial ?_
        refine R_retz hc38 rfl rfl (Or.inl rfl) ⟨0, m0, m1, m2, m3, m4, m5, m6, m7, pl, v, e, rfl, rfl, by omega, by omega, by omega, by omega, by omega, by omega, by omega, by omega, ⟨by omega, by omega⟩, ?_⟩
        exfalso
        have z := hg 5 (by omega)
        exact z.2.1 eK_5
      · refine R_s (P := True) (f' := (16, [some (vR 17), some (vR 20), some (vI x)], [vI x, vR 20, vR 17], LAY (u (u (u (u (u (u (u (u A 21 m0) 22 m1) 23 m2) 24 m3) 25 m4) 26 m5) 27 m6) 28 m7) (u (u (u F 6 pl) 7 v) 8 e), 0, 0)) hc38 3 rfl trivial ?_
        refine R_cv hc38 rfl rfl (l_rend0 (A := (u (u (u (u (u (u (u (u A 21 m0) 22 m1) 23 m2) 24 m3) 25 m4) 26 m5) 27 m6) 28 m7)) (F := (u (u (u F 6 pl) 7 v) 8 e)) (LENS_u (LENS_u (LENS_u (LENS_u (LENS_u (LENS_u (LENS_u (LENS_u hL (by show m0.length = (A 21).length; omega)) (by show m1.length = (A 22).length; omega)) (by show m2.length = (A 23).length; omega)) (by show m3.length = (A 24).length; omega)) (by show m4.length = (A 25).length; omega)) (by show m5.length = (A 26).length; omega)) (by show m6.length = (A 27).length; omega)) (by show m7.length = (A 28).length; omega)) h5 ⟨(show 0 ≤ pl by omega), (show pl ≤ F 5 by omega)⟩ ex (by omega)) (fun r G9 hp9 => ?_)
        obtain ⟨b2, n0, n1, n2, n3, n4, n5, n6, n7, a2, v2, rfl, rfl, ln0, ln1, ln2, ln3, ln4, ln5, ln6, ln7, hb2, p2, q2, kp0, kp1, kp2, kp3, kp4, kp5, kp6, kp7, hE, hV⟩ := hp9
        have q2 : a2 ≤ F 5 := q2
        have hE : eN (A 18) (F 5) i (0, pl) = (1 - b2, a2) := hE
        rw [← hs] at hE
        have hV : b2 = 1 → eV (A 18) (F 5) i (sT (A 18) (F 5) i) (rd n0 i) (rd n1 i) (rd n2 i) (rd n3 i) (rd n4 i) (rd n5 i) (rd n6 i) (rd n7 i) := by
          rw [hs]
          exact hV
        have hk0 : b2 = 1 → rd n0 x = eK (A 18) (F 5) i (sT (A 18) (F 5) i) := fun q => by
          rw [ex]
          exact (hV q).1
        have kp0 : ∀ q : Nat, q ≠ i → rd n0 q = rd m0 q := kp0
        have kp1 : ∀ q : Nat, q ≠ i → rd n1 q = rd m1 q := kp1
        have kp2 : ∀ q : Nat, q ≠ i → rd n2 q = rd m2 q := kp2
        have kp3 : ∀ q : Nat, q ≠ i → rd n3 q = rd m3 q := kp3
        have kp4 : ∀ q : Nat, q ≠ i → rd n4 q = rd m4 q := kp4
        have kp5 : ∀ q : Nat, q ≠ i → rd n5 q = rd m5 q := kp5
        have kp6 : ∀ q : Nat, q ≠ i → rd n6 q = rd m6 q := kp6
        have kp7 : ∀ q : Nat, q ≠ i → rd n7 q = rd m7 q := kp7
        refine R_s (f' := (19, [some (vR 17), some (vR 20), some (vI x)], [vI b2], LAY (u (u (u (u (u (u (u (u A 21 n0) 22 n1) 23 n2) 24 n3) 25 n4) 26 n5) 27 n6) 28 n7) (u (u (u F 8 e) 6 a2) 7 v2), 0, 0)) hc38 0 rfl trivial ?_
        refine R_if (t := 24) hc38 rfl rfl (fun (c2 : ¬ b2 = 0) => ?_) (fun (c2 : ¬ (¬ b2 = 0)) => ?_)
        · refine R_s (P := (0 ≤ x ∧ x < ((n0).length : Int)) ∧ True) (f' := (31, [some (vR 17), some (vR 20), some (vI x)], [vI 3, vI (rd n0 x)], LAY (u (u (u (u (u (u (u (u A 21 n0) 22 n1) 23 n2) 24 n3) 25 n4) 26 n5) 27 n6) 28 n7) (u (u (u F 8 e) 6 a2) 7 v2), 0, 0)) hc38 5 rfl ⟨⟨by omega, by omega⟩, trivial⟩ ?_
          refine R_ic (t := 58) hc38 rfl rfl (fun (c3 : ¬ rd n0 x = 3) => ?_) (fun (c3 : ¬ (¬ rd n0 x = 3)) => ?_)
          · refine R_s (P := True) (f' := (61, [some (vR 17), some (vR 20), some (vI x)], [vS 13, vR 17], LAY (u (u (u (u (u (u (u (u A 21 n0) 22 n1) 23 n2) 24 n3) 25 n4) 26 n5) 27 n6) 28 n7) (u (u (u F 8 e) 6 a2) 7 v2), 0, 0)) hc38 2 rfl trivial ?_
            refine R_cv hc38 rfl rfl (l_word13 (A := (u (u (u (u (u (u (u (u A 21 n0) 22 n1) 23 n2) 24 n3) 25 n4) 26 n5) 27 n6) 28 n7)) (F := (u (u (u F 8 e) 6 a2) 7 v2)) (LENS_u (LENS_u (LENS_u (LENS_u (LENS_u (LENS_u (LENS_u (LENS_u hL (by show n0.length = (A 21).length; omega)) (by show n1.length = (A 22).length; omega)) (by show n2.length = (A 23).length; omega)) (by show n3.length = (A 24).length; omega)) (by show n4.length = (A 25).length; omega)) (by show n5.length = (A 26).length; omega)) (by show n6.length = (A 27).length; omega)) (by show n7.length = (A 28).length; omega)) h5 ⟨(show 0 ≤ a2 by omega), (show a2 ≤ F 5 by omega)⟩) (fun r G9 hp9 => ?_)
            obtain ⟨b3, a3, rfl, rfl, hb3, hW, p3, q3⟩ := hp9
            have q3 : a3 ≤ F 5 := q3
            have hW : wD (A 18) (F 5) SEMI (0, a2) = (1 - b3, a3) := hW
            have hE0 : eN (A 18) (F 5) i (sT (A 18) (F 5) i) = (0, a2) := by rw [hE, show b2 = 1 by omega]; rfl
            have hS : sT (A 18) (F 5) (i + 1) = (1 - b3, a3) := by
              show wD (A 18) (F 5) SEMI (eN (A 18) (F 5) i (sT (A 18) (F 5) i)) = _
              rw [hE0]
              exact hW
            refine R_s (f' := (64, [some (vR 17), some (vR 20), some (vI x)], [vI b3], LAY (u (u (u (u (u (u (u (u A 21 n0) 22 n1) 23 n2) 24 n3) 25 n4) 26 n5) 27 n6) 28 n7) (u (u (u F 8 e) 7 v2) 6 a3), 0, 0)) hc38 0 rfl trivial ?_
            refine R_if (t := 69) hc38 rfl rfl (fun (c4 : ¬ b3 = 0) => ?_) (fun (c4 : ¬ (¬ b3 = 0)) => ?_)
            · refine R_s (P := inI (x + 1) ∧ True) (f' := (7, [some (vR 17), some (vR 20), some (vI (x + 1))], [], LAY (u (u (u (u (u (u (u (u A 21 n0) 22 n1) 23 n2) 24 n3) 25 n4) 26 n5) 27 n6) 28 n7) (u (u (u F 8 e) 7 v2) 6 a3), 0, 0)) hc38 2 rfl ⟨⟨by omega, by omega⟩, trivial⟩ ?_
              refine R_s (P := True) (f' := (7, [some (vR 17), some (vR 20), some (vI (x + 1))], [], LAY (u (u (u (u (u (u (u (u A 21 n0) 22 n1) 23 n2) 24 n3) 25 n4) 26 n5) 27 n6) 28 n7) (u (u (u F 6 a3) 7 v2) 8 e), 0, 0)) hc38 0 rfl trivial ?_
              have hS0 : sT (A 18) (F 5) (i + 1) = (0, a3) := by rw [hS, show b3 = 1 by omega]; rfl
              refine ih (i + 1) _ _ _ _ _ _ _ _ _ _ _ _ (by omega) ln0 ln1 ln2 ln3 ln4 ln5 ln6 ln7 ⟨p3, q3⟩ hS0 (fun j hj => ?_) (fun j hj => ?_) (by omega) (by omega)
              · by_cases q : j = i
                · rw [q]
                  exact ⟨by rw [hE0], by rw [← hk0 (by omega)]; omega, by rw [hS0]⟩
                · exact hg j (by omega)
              · by_cases q : j = i
                · rw [q]
                  exact hV (by omega)
                · rw [kp0 j q, kp1 j q, kp2 j q, kp3 j q, kp4 j q, kp5 j q, kp6 j q, kp7 j q]
                  exact hv j (by omega)
            · refine R_s (P := True) (f' := (68, [some (vR 17), some (vR 20), some (vI x)], [vI 0], LAY (u (u (u (u (u (u (u (u A 21 n0) 22 n1) 23 n2) 24 n3) 25 n4) 26 n5) 27 n6) 28 n7) (u (u (u F 8 e) 7 v2) 6 a3), 0, 0)) hc38 1 rfl trivial ?_
              refine R_retz hc38 rfl rfl (Or.inl rfl) ⟨0, n0, n1, n2, n3, n4, n5, n6, n7, a3, v2, e, rfl, rfl, by omega, by omega, by omega, by omega, by omega, by omega, by omega, by omega, ⟨by omega, by omega⟩, ?_⟩
              exact .inl ⟨rfl, i, by omega, hg, .inr (.inr ⟨by rw [hE0], by rw [← hk0 (by omega)]; omega, by rw [hS]; (try dsimp only); omega, by rw [hS]⟩)⟩
          · refine R_s (P := inI (x + 1) ∧ True) (f' := (49, [some (vR 17), some (vR 20), some (vI x)], [vI (F 5), vI a2], LAY (u (u (u (u (u (u (u (u A 21 n0) 22 n1) 23 n2) 24 n3) 25 n4) 26 n5) 27 n6) 28 n7) (u (u (u F 6 a2) 7 v2) 8 (x + 1)), 0, 0)) hc38 9 rfl ⟨⟨by omega, by omega⟩, trivial⟩ ?_
            refine R_ic (t := 56) hc38 rfl rfl (fun (c5 : ¬ a2 = F 5) => ?_) (fun (c5 : ¬ (¬ a2 = F 5)) => ?_)
            · refine R_s (P := True) (f' := (57, [some (vR 17), some (vR 20), some (vI x)], [vI 0], LAY (u (u (u (u (u (u (u (u A 21 n0) 22 n1) 23 n2) 24 n3) 25 n4) 26 n5) 27 n6) 28 n7) (u (u (u F 6 a2) 7 v2) 8 (x + 1)), 0, 0)) hc38 1 rfl trivial ?_
              refine R_retz hc38 rfl rfl (Or.inl rfl) ⟨0, n0, n1, n2, n3, n4, n5, n6, n7, a2, v2, x + 1, rfl, rfl, by omega, by omega, by omega, by omega, by omega, by omega, by omega, by omega, ⟨by omega, by omega⟩, ?_⟩
              have hE0 : eN (A 18) (F 5) i (sT (A 18) (F 5) i) = (0, a2) := by rw [hE, show b2 = 1 by omega]; rfl
              have hK : eK (A 18) (F 5) i (sT (A 18) (F 5) i) = 3 := by rw [← hk0 (by omega)]; omega
              exact .inl ⟨rfl, i, by omega, hg, .inr (.inl ⟨by rw [hE0], hK, by rw [hE0]; (try dsimp only); omega, by rw [hE0]⟩)⟩
            · refine R_s (P := True) (f' := (57, [some (vR 17), some (vR 20), some (vI x)], [vI 1], LAY (u (u (u (u (u (u (u (u A 21 n0) 22 n1) 23 n2) 24 n3) 25 n4) 26 n5) 27 n6) 28 n7) (u (u (u F 6 a2) 7 v2) 8 (x + 1)), 0, 0)) hc38 2 rfl trivial ?_
              refine R_retz hc38 rfl rfl (Or.inr rfl) ⟨1, n0, n1, n2, n3, n4, n5, n6, n7, a2, v2, x + 1, rfl, rfl, by omega, by omega, by omega, by omega, by omega, by omega, by omega, by omega, ⟨by omega, by omega⟩, ?_⟩
              have hE0 : eN (A 18) (F 5) i (sT (A 18) (F 5) i) = (0, a2) := by rw [hE, show b2 = 1 by omega]; rfl
              have hK : eK (A 18) (F 5) i (sT (A 18) (F 5) i) = 3 := by rw [← hk0 (by omega)]; omega
              refine .inr ⟨rfl, i + 1, by omega, ⟨i, rfl, by omega, hg, by rw [hE0, show a2 = F 5 by omega], hK⟩, fun j hj => ?_⟩
              by_cases q : j = i
              · rw [q]
                exact hV (by omega)
              · rw [kp0 j q, kp1 j q, kp2 j q, kp3 j q, kp4 j q, kp5 j q, kp6 j q, kp7 j q]
                exact hv j (by omega)
        · refine R_s (P := True) (f' := (23, [some (vR 17), some (vR 20), some (vI x)], [vI 0], LAY (u (u (u (u (u (u (u (u A 21 n0) 22 n1) 23 n2) 24 n3) 25 n4) 26 n5) 27 n6) 28 n7) (u (u (u F 8 e) 6 a2) 7 v2), 0, 0)) hc38 1 rfl trivial ?_
          refine R_retz hc38 rfl rfl (Or.inl rfl) ⟨0, n0, n1, n2, n3, n4, n5, n6, n7, a2, v2, e, rfl, rfl, by omega, by omega, by omega, by omega, by omega, by omega, by omega, by omega, ⟨by omega, by omega⟩, ?_⟩
          exact .inl ⟨rfl, i, by omega, hg, .inl ⟨by rw [hE]; (try dsimp only); omega, by rw [hE]⟩⟩
  refine R_s (P := True) (f' := (7, [some (vR 17), some (vR 20), some (vI 0)], [], LAY (u (u (u (u (u (u (u (u A 21 (A 21)) 22 (A 22)) 23 (A 23)) 24 (A 24)) 25 (A 25)) 26 (A 26)) 27 (A 27)) 28 (A 28)) (u (u (u F 6 0) 7 (F 7)) 8 (F 8)), 0, 0)) hc38 5 rfl trivial ?_
  exact lp 7 0 _ _ _ _ _ _ _ _ _ _ _ _ rfl d0 d1 d2 d3 d4 d5 d6 d7 ⟨by decide, h5.1⟩ rfl (fun j hj => absurd hj (by omega)) (fun j hj => absurd hj (by omega)) (by omega) (by omega)
theorem l_rend1 {A : Nat → List Int} {F : Nat → Int} (hL : LENS A) (h5 : 0 ≤ F 5 ∧ F 5 ≤ 120) (h6 : 0 ≤ F 6 ∧ F 6 ≤ F 5) {x : Int} {i : Nat} (ex : x = (i : Int)) (hi : i < 6) : R 39 (0, L0 39 [vR 17, vR 29, vI x], [], LAY A F, 0, 0) (fun r G => ∃ (c : Int) (q0 q1 q2 q3 q4 q5 q6 q7 : List Int) (a v : Int), r = some (vI c) ∧ G = LAY (u (u (u (u (u (u (u (u A 30 q0) 31 q1) 32 q2) 33 q3) 34 q4) 35 q5) 36 q6) 37 q7) (u (u F 6 a) 7 v) ∧ q0.length = 6 ∧ q1.length = 6 ∧ q2.length = 6 ∧ q3.length = 6 ∧ q4.length = 6 ∧ q5.length = 6 ∧ q6.length = 6 ∧ q7.length = 6 ∧ (c = 0 ∨ c = 1) ∧ 0 ≤ a ∧ a ≤ F 5 ∧ (∀ q : Nat, q ≠ i → rd q0 q = rd (A 30) q) ∧ (∀ q : Nat, q ≠ i → rd q1 q = rd (A 31) q) ∧ (∀ q : Nat, q ≠ i → rd q2 q = rd (A 32) q) ∧ (∀ q : Nat, q ≠ i → rd q3 q = rd (A 33) q) ∧ (∀ q : Nat, q ≠ i → rd q4 q = rd (A 34) q) ∧ (∀ q : Nat, q ≠ i → rd q5 q = rd (A 35) q) ∧ (∀ q : Nat, q ≠ i → rd q6 q = rd (A 36) q) ∧ (∀ q : Nat, q ≠ i → rd q7 q = rd (A 37) q) ∧ eN (A 18) (F 5) i (0, F 6) = (1 - c, a) ∧ (c = 1 → eV (A 18) (F 5) i (0, F 6) (rd q0 i) (rd q1 i) (rd q2 i) (rd q3 i) (rd q4 i) (rd q5 i) (rd q6 i) (rd q7 i))) := by
  have d0 : (A 30).length = 6 := hL 30 (by decide)
  have d1 : (A 31).length = 6 := hL 31 (by decide)
  have d2 : (A 32).length = 6 := hL 32 (by decide)
  have d3 : (A 33).length = 6 := hL 33 (by decide)
  have d4 : (A 34).length = 6 := hL 34 (by decide)
  have d5 : (A 35).length = 6 := hL 35 (by decide)
  have d6 : (A 36).length = 6 := hL 36 (by decide)
  have d7 : (A 37).length = 6 := hL 37 (by decide)
  have g1 : rd (wr (A 34) x 1) x = 1 := rd_wr_s (by omega) (by omega)
  have g0 : rd (wr (A 34) x 0) x = 0 := rd_wr_s (by omega) (by omega)
  refine R_s (P := True) (f' := (0, [some (vR 17), some (vR 29), some (vI x), none, none], [], LAY (u (u (u (u (u (u (u (u A 30 (A 30)) 31 (A 31)) 32 (A 32)) 33 (A 33)) 34 (A 34)) 35 (A 35)) 36 (A 36)) 37 (A 37)) (u (u F 6 (F 6)) 7 (F 7)), 0, 0)) hc39 0 rfl trivial ?_
  refine R_s (P := (0 ≤ x ∧ x < ((A 35).length : Int)) ∧ inI (x + 1) ∧ True) (f' := (12, [some (vR 17), some (vR 29), some (vI x), none, none], [vI 6, vI (x + 1)], LAY (u (u (u (u (u (u (u (u A 30 (A 30)) 31 (A 31)) 32 (A 32)) 33 (A 33)) 34 (A 34)) 36 (A 36)) 37 (A 37)) 35 (wr (A 35) x 0)) (u (u F 6 (F 6)) 7 (F 7)), 0, 0)) hc39 9 rfl ⟨⟨by omega, by omega⟩, ⟨by omega, by omega⟩, trivial⟩ ?_
  refine R_ic (t := 19) hc39 rfl rfl (fun (c1 : ¬ x + 1 = 6) => ?_) (fun (c1 : ¬ (¬ x + 1 = 6)) => ?_)
  · refine R_s (P := True) (f' := (22, [some (vR 17), some (vR 29), some (vI x), some (vI 0), none], [vR 17], LAY (u (u (u (u (u (u (u (u A 30 (A 30)) 31 (A 31)) 32 (A 32)) 33 (A 33)) 34 (A 34)) 36 (A 36)) 37 (A 37)) 35 (wr (A 35) x 0)) (u (u F 6 (F 6)) 7 (F 7)), 0, 0)) hc39 3 rfl trivial ?_
    refine R_cv hc39 rfl rfl (l_next (A := (u (u (u (u (u (u (u (u A 30 (A 30)) 31 (A 31)) 32 (A 32)) 33 (A 33)) 34 (A 34)) 36 (A 36)) 37 (A 37)) 35 (wr (A 35) x 0))) (F := (u (u F 6 (F 6)) 7 (F 7))) (LENS_u (LENS_u (LENS_u (LENS_u (LENS_u (LENS_u (LENS_u (LENS_u hL (by show (A 30).length = (A 30).length; omega)) (by show (A 31).length = (A 31).length; omega)) (by show (A 32).length = (A 32).length; omega)) (by show (A 33).length = (A 33).length; omega)) (by show (A 34).length = (A 34).length; omega)) (by show (A 36).length = (A 36).length; omega)) (by show (A 37).length = (A 37).length; omega)) (by show (wr (A 35) x 0).length = (A 35).length; simp only [wr_len])) h5 ⟨by (show 0 ≤ F 6); omega, by (show F 6 ≤ F 5); omega⟩) (fun r G9 hp9 => ?_)
    obtain ⟨e1, rfl⟩ := hp9
    have e2 : r = some (vI (nx (A 18) (F 5) (F 6))) := e1
    clear e1
    subst e2
    refine R_s (f' := (25, [some (vR 17), some (vR 29), some (vI x), some (vI 0), none], [vI (nx (A 18) (F 5) (F 6))], LAY (u (u (u (u (u (u (u (u A 30 (A 30)) 31 (A 31)) 32 (A 32)) 33 (A 33)) 34 (A 34)) 36 (A 36)) 37 (A 37)) 35 (wr (A 35) x 0)) (u (u F 6 (F 6)) 7 (F 7)), 0, 0)) hc39 0 rfl trivial ?_
    refine R_s (P := True) (f' := (31, [some (vR 17), some (vR 29), some (vI x), some (vI 0), some (vI (nx (A 18) (F 5) (F 6)))], [vI 102, vI (nx (A 18) (F 5) (F 6))], LAY (u (u (u (u (u (u (u (u A 30 (A 30)) 31 (A 31)) 32 (A 32)) 33 (A 33)) 34 (A 34)) 36 (A 36)) 37 (A 37)) 35 (wr (A 35) x 0)) (u (u F 6 (F 6)) 7 (F 7)), 0, 0)) hc39 3 rfl trivial ?_
    refine R_ic (t := 62) hc39 rfl rfl (fun (c2 : ¬ nx (A 18) (F 5) (F 6) = 102) => ?_) (fun (c2 : ¬ (¬ nx (A 18) (F 5) (F 6) = 102)) => ?_)
    · refine R_s (P := True) (f' := (66, [some (vR 17), some (vR 29), some (vI x), some (vI 0), some (vI (nx (A 18) (F 5) (F 6)))], [vI 108, vI (nx (A 18) (F 5) (F 6))], LAY (u (u (u (u (u (u (u (u A 30 (A 30)) 31 (A 31)) 32 (A 32)) 33 (A 33)) 34 (A 34)) 36 (A 36)) 37 (A 37)) 35 (wr (A 35) x 0)) (u (u F 6 (F 6)) 7 (F 7)), 0, 0)) hc39 2 rfl trivial ?_
      refine R_ic (t := 97) hc39 rfl rfl (fun (c3 : ¬ nx (A 18) (F 5) (F 6) = 108) => ?_) (fun (c3 : ¬ (¬ nx (A 18) (F 5) (F 6) = 108)) => ?_)
      · refine R_s (P := True) (f' := (101, [some (vR 17), some (vR 29), some (vI x), some (vI 0), some (vI (nx (A 18) (F 5) (F 6)))], [vI 109, vI (nx (A 18) (F 5) (F 6))], LAY (u (u (u (u (u (u (u (u A 30 (A 30)) 31 (A 31)) 32 (A 32)) 33 (A 33)) 34 (A 34)) 36 (A 36)) 37 (A 37)) 35 (wr (A 35) x 0)) (u (u F 6 (F 6)) 7 (F 7)), 0, 0)) hc39 2 rfl trivial ?_
        refine R_ic (t := 132) hc39 rfl rfl (fun (c4 : ¬ nx (A 18) (F 5) (F 6) = 109) => ?_) (fun (c4 : ¬ (¬ nx (A 18) (F 5) (F 6) = 109)) => ?_)
        · refine R_s (P := True) (f' := (135, [some (vR 17), some (vR 29), some (vI x), some (vI 0), some (vI (nx (A 18) (F 5) (F 6)))], [vI x, vR 29, vR 17], LAY (u (u (u (u (u (u (u (u A 30 (A 30)) 31 (A 31)) 32 (A 32)) 33 (A 33)) 34 (A 34)) 36 (A 36)) 37 (A 37)) 35 (wr (A 35) x 0)) (u (u F 6 (F 6)) 7 (F 7)), 0, 0)) hc39 3 rfl trivial ?_
          refine R_cv hc39 rfl rfl (l_rrest1 (A := (u (u (u (u (u (u (u (u A 30 (A 30)) 31 (A 31)) 32 (A 32)) 33 (A 33)) 34 (A 34)) 36 (A 36)) 37 (A 37)) 35 (wr (A 35) x 0))) (F := (u (u F 6 (F 6)) 7 (F 7))) (LENS_u (LENS_u (LENS_u (LENS_u (LENS_u (LENS_u (LENS_u (LENS_u hL (by show (A 30).length = (A 30).length; omega)) (by show (A 31).length = (A 31).length; omega)) (by show (A 32).length = (A 32).length; omega)) (by show (A 33).length = (A 33).length; omega)) (by show (A 34).length = (A 34).length; omega)) (by show (A 36).length = (A 36).length; omega)) (by show (A 37).length = (A 37).length; omega)) (by show (wr (A 35) x 0).length = (A 35).length; simp only [wr_len])) h5 ⟨by (show 0 ≤ F 6); omega, by (show F 6 ≤ F 5); omega⟩ ex hi) (fun r G9 hp9 => ?_)
          obtain ⟨b26, g0_26, g3_26, a26, v26, rfl, rfl, l26_0, l26_3, hb26, p26, q26, kp26_0, kp26_3, hw26, r26, hv26⟩ := hp9
          have q26 : a26 ≤ F 5 := q26
          have kp26_0 : ∀ q : Nat, q ≠ i → rd g0_26 q = rd (A 30) q := kp26_0
          have kp26_3 : ∀ q : Nat, q ≠ i → rd g3_26 q = rd (A 33) q := kp26_3
          refine R_s (f' := (138, [some (vR 17), some (vR 29), some (vI x), some (vI 0), some (vI (nx (A 18) (F 5) (F 6)))], [vI b26], LAY (u (u (u (u (u (u (u (u A 31 (A 31)) 32 (A 32)) 34 (A 34)) 36 (A 36)) 37 (A 37)) 35 (wr (A 35) x 0)) 30 g0_26) 33 g3_26) (u (u F 6 a26) 7 v26), 0, 0)) hc39 0 rfl trivial ?_
          refine R_retz hc39 rfl rfl (by omega) ⟨b26, g0_26, A 31, A 32, g3_26, A 34, wr (A 35) x 0, A 36, A 37, a26, v26, rfl, rfl, (by (try simp only [wr_len]); omega), (by (try simp only [wr_len]); omega), (by (try simp only [wr_len]); omega), (by (try simp only [wr_len]); omega), (by (try simp only [wr_len]); omega), (by (try simp only [wr_len]); omega), (by (try simp only [wr_len]); omega), (by (try simp only [wr_len]); omega), hb26, by omega, by omega, fun q hq => by rw [kp26_0 q hq], fun _ _ => rfl, fun _ _ => rfl, fun q hq => by rw [kp26_3 q hq], fun _ _ => rfl, fun q hq => by rw [rd_wr_n (by omega) (by omega) (by omega)], fun _ _ => rfl, fun _ _ => rfl, ?_⟩
          have hk : eK (A 18) (F 5) i (0, F 6) = 3 := by
            unfold eK
            (try dsimp only)
            rw [if_neg (fun z => by omega)]
            rw [if_neg (fun z => by omega)]
            rw [if_neg (fun z => by omega)]
          have eS : eN (A 18) (F 5) i (0, F 6) = (1 - b26, a26) := by rw [eN_3 hk]; exact hw26
          have r0 : rd (g0_26) i = 3 := r26
          have z5 : rd (wr (A 35) x 0) i = 0 := by rw [← ex]; exact rd_wr_s (by omega) (by omega)
          exact ⟨eS, fun y => ⟨by rw [r0, hk], fun z => absurd z (by rw [r0]; decide), fun z => absurd z (by rw [r0]; decide), fun z => absurd z (by rw [r0]; decide), fun _ => ⟨hv26 y, z5⟩, fun z => absurd r0 z⟩⟩
        · refine R_s (P := True) (f' := (105, [some (vR 17), some (vR 29), some (vI x), some (vI 0), some (vI (nx (A 18) (F 5) (F 6)))], [vI x], LAY (u (u (u (u (u (u (u (u A 30 (A 30)) 31 (A 31)) 32 (A 32)) 33 (A 33)) 34 (A 34)) 36 (A 36)) 37 (A 37)) 35 (wr (A 35) x 0)) (u (u F 6 (F 6)) 7 (F 7)), 0, 0)) hc39 1 rfl trivial ?_
          refine R_if (t := 132) hc39 rfl rfl (fun (c5 : ¬ x = 0) => ?_) (fun (c5 : ¬ (¬ x = 0)) => ?_)
          · refine R_s (P := True) (f' := (135, [some (vR 17), some (vR 29), some (vI x), some (vI 0), some (vI (nx (A 18) (F 5) (F 6)))], [vI x, vR 29, vR 17], LAY (u (u (u (u (u (u (u (u A 30 (A 30)) 31 (A 31)) 32 (A 32)) 33 (A 33)) 34 (A 34)) 36 (A 36)) 37 (A 37)) 35 (wr (A 35) x 0)) (u (u F 6 (F 6)) 7 (F 7)), 0, 0)) hc39 3 rfl trivial ?_
            refine R_cv hc39 rfl rfl (l_rrest1 (A := (u (u (u (u (u (u (u (u A 30 (A 30)) 31 (A 31)) 32 (A 32)) 33 (A 33)) 34 (A 34)) 36 (A 36)) 37 (A 37)) 35 (wr (A 35) x 0))) (F := (u (u F 6 (F 6)) 7 (F 7))) (LENS_u (LENS_u (LENS_u (LENS_u (LENS_u (LENS_u (LENS_u (LENS_u hL (by show (A 30).length = (A 30).length; omega)) (by show (A 31).length = (A 31).length; omega)) (by show (A 32).length = (A 32).length; omega)) (by show (A 33).length = (A 33).length; omega)) (by show (A 34).length = (A 34).length; omega)) (by show (A 36).length = (A 36).length; omega)) (by show (A 37).length = (A 37).length; omega)) (by show (wr (A 35) x 0).length = (A 35).length; simp only [wr_len])) h5 ⟨by (show 0 ≤ F 6); omega, by (show F 6 ≤ F 5); omega⟩ ex hi) (fun r G9 hp9 => ?_)
            obtain ⟨b27, g0_27, g3_27, a27, v27, rfl, rfl, l27_0, l27_3, hb27, p27, q27, kp27_0, kp27_3, hw27, r27, hv27⟩ := hp9
            have q27 : a27 ≤ F 5 := q27
            have kp27_0 : ∀ q : Nat, q ≠ i → rd g0_27 q = rd (A 30) q := kp27_0
            have kp27_3 : ∀ q : Nat, q ≠ i → rd g3_27 q = rd (A 33) q := kp27_3
            refine R_s (f' := (138, [some (vR 17), some (vR 29), some (vI x), some (vI 0), some (vI (nx (A 18) (F 5) (F 6)))], [vI b27], LAY (u (u (u (u (u (u (u (u A 31 (A 31)) 32 (A 32)) 34 (A 34)) 36 (A 36)) 37 (A 37)) 35 (wr (A 35) x 0)) 30 g0_27) 33 g3_27) (u (u F 6 a27) 7 v27), 0, 0)) hc39 0 rfl trivial ?_
            refine R_retz hc39 rfl rfl (by omega) ⟨b27, g0_27, A 31, A 32, g3_27, A 34, wr (A 35) x 0, A 36, A 37, a27, v27, rfl, rfl, (by (try simp only [wr_len]); omega), (by (try simp only [wr_len]); omega), (by (try simp only [wr_len]); omega), (by (try simp only [wr_len]); omega), (by (try simp only [wr_len]); omega), (by (try simp only [wr_len]); omega), (by (try simp only [wr_len]); omega), (by (try simp only [wr_len]); omega), hb27, by omega, by omega, fun q hq => by rw [kp27_0 q hq], fun _ _ => rfl, fun _ _ => rfl, fun q hq => by rw [kp27_3 q hq], fun _ _ => rfl, fun q hq => by rw [rd_wr_n (by omega) (by omega) (by omega)], fun _ _ => rfl, fun _ _ => rfl, ?_⟩
            have hk : eK (A 18) (F 5) i (0, F 6) = 3 := by
              unfold eK
              (try dsimp only)
              rw [if_neg (fun z => by omega)]
              rw [if_neg (fun z => by omega)]
              rw [if_neg (fun z => by omega)]
            have eS : eN (A 18) (F 5) i (0, F 6) = (1 - b27, a27) := by rw [eN_3 hk]; exact hw27
            have r0 : rd (g0_27) i = 3 := r27
            have z5 : rd (wr (A 35) x 0) i = 0 := by rw [← ex]; exact rd_wr_s (by omega) (by omega)
            exact ⟨eS, fun y => ⟨by rw [r0, hk], fun z => absurd z (by rw [r0]; decide), fun z => absurd z (by rw [r0]; decide), fun z => absurd z (by rw [r0]; decide), fun _ => ⟨hv27 y, z5⟩, fun z => absurd r0 z⟩⟩
          · refine R_s (P := True) (f' := (111, [some (vR 17), some (vR 29), some (vI x), some (vI 0), some (vI (nx (A 18) (F 5) (F 6)))], [vI x, vR 29, vR 17], LAY (u (u (u (u (u (u (u (u A 30 (A 30)) 31 (A 31)) 32 (A 32)) 33 (A 33)) 34 (A 34)) 36 (A 36)) 37 (A 37)) 35 (wr (A 35) x 0)) (u (u F 6 (F 6)) 7 (F 7)), 0, 0)) hc39 3 rfl trivial ?_
            refine R_cv hc39 rfl rfl ?_ (fun r G h => h)
            refine R_s (P := (0 ≤ x ∧ x < ((A 30).length : Int)) ∧ True) (f' := (10, [some (vR 17), some (vR 29), some (vI x)], [vS 11, vR 17], LAY (u (u (u (u (u (u (u (u A 31 (A 31)) 32 (A 32)) 33 (A 33)) 34 (A 34)) 36 (A 36)) 37 (A 37)) 35 (wr (A 35) x 0)) 30 (wr (A 30) x 2)) (u (u F 6 (F 6)) 7 (F 7)), 0, 0)) hc42 7 rfl ⟨⟨by omega, by omega⟩, trivial⟩ ?_
            refine R_cv hc42 rfl rfl (l_word11 (A := (u (u (u (u (u (u (u (u A 31 (A 31)) 32 (A 32)) 33 (A 33)) 34 (A 34)) 36 (A 36)) 37 (A 37)) 35 (wr (A 35) x 0)) 30 (wr (A 30) x 2))) (F := (u (u F 6 (F 6)) 7 (F 7))) (LENS_u (LENS_u (LENS_u (LENS_u (LENS_u (LENS_u (LENS_u (LENS_u hL (by show (A 31).length = (A 31).length; omega)) (by show (A 32).length = (A 32).length; omega)) (by show (A 33).length = (A 33).length; omega)) (by show (A 34).length = (A 34).length; omega)) (by show (A 36).length = (A 36).length; omega)) (by show (A 37).length = (A 37).length; omega)) (by show (wr (A 35) x 0).length = (A 35).length; simp only [wr_len])) (by show (wr (A 30) x 2).length = (A 30).length; simp only [wr_len])) h5 ⟨by (show 0 ≤ F 6); omega, by (show F 6 ≤ F 5); omega⟩) (fun r G9 hp9 => ?_)
            obtain ⟨b28, a28, rfl, rfl, hb28, hw28, p28, q28⟩ := hp9
            have p28 : 0 ≤ a28 := p28
            have q28 : a28 ≤ F 5 := q28
            refine R_s (f' := (13, [some (vR 17), some (vR 29), some (vI x)], [vI b28], LAY (u (u (u (u (u (u (u (u A 31 (A 31)) 32 (A 32)) 33 (A 33)) 34 (A 34)) 36 (A 36)) 37 (A 37)) 35 (wr (A 35) x 0)) 30 (wr (A 30) x 2)) (u (u F 7 (F 7)) 6 a28), 0, 0)) hc42 0 rfl trivial ?_
            refine R_if (t := 24) hc42 rfl rfl (fun (c6 : b28 = 0) => ?_) (fun (c6 : ¬ (b28 = 0)) => ?_)
            · refine R_s (P := True) (f' := (25, [some (vR 17), some (vR 29), some (vI x)], [vI 0], LAY (u (u (u (u (u (u (u (u A 31 (A 31)) 32 (A 32)) 33 (A 33)) 34 (A 34)) 36 (A 36)) 37 (A 37)) 35 (wr (A 35) x 0)) 30 (wr (A 30) x 2)) (u (u F 7 (F 7)) 6 a28), 0, 0)) hc42 1 rfl trivial ?_
              refine R_retz hc42 rfl rfl (Or.inl rfl) ?_
              refine R_s (f' := (114, [some (vR 17), some (vR 29), some (vI x), some (vI 0), some (vI (nx (A 18) (F 5) (F 6)))], [vI 0], LAY (u (u (u (u (u (u (u (u A 31 (A 31)) 32 (A 32)) 33 (A 33)) 34 (A 34)) 36 (A 36)) 37 (A 37)) 35 (wr (A 35) x 0)) 30 (wr (A 30) x 2)) (u (u F 7 (F 7)) 6 a28), 0, 0)) hc39 0 rfl trivial ?_
              refine R_if (t := 130) hc39 rfl rfl (fun (_ : 0 = 0) => ?_) (fun (z : ¬ (0 = 0)) => absurd (by decide) z)
              refine R_s (P := True) (f' := (131, [some (vR 17), some (vR 29), some (vI x), some (vI 0), some (vI (nx (A 18) (F 5) (F 6)))], [vI 0], LAY (u (u (u (u (u (u (u (u A 31 (A 31)) 32 (A 32)) 33 (A 33)) 34 (A 34)) 36 (A 36)) 37 (A 37)) 35 (wr (A 35) x 0)) 30 (wr (A 30) x 2)) (u (u F 7 (F 7)) 6 a28), 0, 0)) hc39 1 rfl trivial ?_
              refine R_retz hc39 rfl rfl (Or.inl rfl) ⟨0, wr (A 30) x 2, A 31, A 32, A 33, A 34, wr (A 35) x 0, A 36, A 37, a28, F 7, rfl, rfl, (by (try simp only [wr_len]); omega), (by (try simp only [wr_len]); omega), (by (try simp only [wr_len]); omega), (by (try simp only [wr_len]); omega), (by (try simp only [wr_len]); omega), (by (try simp only [wr_len]); omega), (by (try simp only [wr_len]); omega), (by (try simp only [wr_len]); omega), by decide, by omega, by omega, fun q hq => by rw [rd_wr_n (by omega) (by omega) (by omega)], fun _ _ => rfl, fun _ _ => rfl, fun _ _ => rfl, fun _ _ => rfl, fun q hq => by rw [rd_wr_n (by omega) (by omega) (by omega)], fun _ _ => rfl, fun _ _ => rfl, ?_⟩
              have ehw28 : b28 = 0 := by omega
              rw [ehw28] at hw28
              have hw28n : wD (A 18) (F 5) MAN (0, F 6) = (1, a28) := hw28
              have hk : eK (A 18) (F 5) i (0, F 6) = 2 := by
                unfold eK
                (try dsimp only)
                rw [if_neg (fun z => by omega)]
                rw [if_neg (fun z => by omega)]
                rw [if_pos ⟨by omega, by omega⟩]
              have eP : pN (A 18) (F 5) MAN (0, F 6) = ((1, a28), 0) := by unfold pN; rw [hw28n, dG_f]
              have eR : pR (A 18) (F 5) MAN (0, F 6) = ((1, a28), 0) := by
                unfold pR
                rw [eP]
                (try dsimp only)
                rw [wD_f]
                rw [dG_f]
              have eT : tB (A 18) (F 5) i (0, F 6) = (1, a28) := by rw [(eN_2 hk).2, eR]
              have eS : eN (A 18) (F 5) i (0, F 6) = (1, a28) := by rw [(eN_2 hk).1, eT, tS_f]
              exact ⟨eS, fun z => absurd z (by decide)⟩
            · refine R_s (P := True) (f' := (18, [some (vR 17), some (vR 29), some (vI x)], [vI 4, vR 17], LAY (u (u (u (u (u (u (u (u A 31 (A 31)) 32 (A 32)) 33 (A 33)) 34 (A 34)) 36 (A 36)) 37 (A 37)) 35 (wr (A 35) x 0)) 30 (wr (A 30) x 2)) (u (u F 7 (F 7)) 6 a28), 0, 0)) hc42 2 rfl trivial ?_
              refine R_cv hc42 rfl rfl (l_numb (A := (u (u (u (u (u (u (u (u A 31 (A 31)) 32 (A 32)) 33 (A 33)) 34 (A 34)) 36 (A 36)) 37 (A 37)) 35 (wr (A 35) x 0)) 30 (wr (A 30) x 2))) (F := (u (u F 7 (F 7)) 6 a28)) (LENS_u (LENS_u (LENS_u (LENS_u (LENS_u (LENS_u (LENS_u (LENS_u hL (by show (A 31).length = (A 31).length; omega)) (by show (A 32).length = (A 32).length; omega)) (by show (A 33).length = (A 33).length; omega)) (by show (A 34).length = (A 34).length; omega)) (by show (A 36).length = (A 36).length; omega)) (by show (A 37).length = (A 37).length; omega)) (by show (wr (A 35) x 0).length = (A 35).length; simp only [wr_len])) (by show (wr (A 30) x 2).length = (A 30).length; simp only [wr_len])) h5 ⟨by (show 0 ≤ a28); omega, by (show a28 ≤ F 5); omega⟩ (kk := 4) (by decide) rfl) (fun r G9 hp9 => ?_)
              obtain ⟨b29, a29, v29, rfl, rfl, hb29, hw29, p29, q29, w29⟩ := hp9
              have p29 : 0 ≤ a29 := p29
              have q29 : a29 ≤ F 5 := q29
              refine R_s (f' := (21, [some (vR 17), some (vR 29), some (vI x)], [vI b29], LAY (u (u (u (u (u (u (u (u A 31 (A 31)) 32 (A 32)) 33 (A 33)) 34 (A 34)) 36 (A 36)) 37 (A 37)) 35 (wr (A 35) x 0)) 30 (wr (A 30) x 2)) (u (u F 6 a29) 7 v29), 0, 0)) hc42 0 rfl trivial ?_
              refine R_if (t := 26) hc42 rfl rfl (fun (c7 : ¬ b29 = 0) => ?_) (fun (c7 : ¬ (¬ b29 = 0)) => ?_)
              · refine R_s (P := (0 ≤ x ∧ x < ((A 31).length : Int)) ∧ True) (f' := (39, [some (vR 17), some (vR 29), some (vI x)], [vI x, vR 29, vR 17], LAY (u (u (u (u (u (u (u (u A 32 (A 32)) 33 (A 33)) 34 (A 34)) 36 (A 36)) 37 (A 37)) 35 (wr (A 35) x 0)) 30 (wr (A 30) x 2)) 31 (wr (A 31) x v29)) (u (u F 6 a29) 7 v29), 0, 0)) hc42 9 rfl ⟨⟨by omega, by omega⟩, trivial⟩ ?_
                refine R_cv hc42 rfl rfl ?_ (fun r G h => h)
                refine R_s (P := True) (f' := (3, [some (vR 17), some (vR 29), some (vI x)], [vS 8, vR 17], LAY (u (u (u (u (u (u (u (u A 32 (A 32)) 33 (A 33)) 34 (A 34)) 36 (A 36)) 37 (A 37)) 35 (wr (A 35) x 0)) 30 (wr (A 30) x 2)) 31 (wr (A 31) x v29)) (u (u F 6 a29) 7 v29), 0, 0)) hc47 2 rfl trivial ?_
                refine R_cv hc47 rfl rfl (l_word8 (A := (u (u (u (u (u (u (u (u A 32 (A 32)) 33 (A 33)) 34 (A 34)) 36 (A 36)) 37 (A 37)) 35 (wr (A 35) x 0)) 30 (wr (A 30) x 2)) 31 (wr (A 31) x v29))) (F := (u (u F 6 a29) 7 v29)) (LENS_u (LENS_u (LENS_u (LENS_u (LENS_u (LENS_u (LENS_u (LENS_u hL (by show (A 32).length = (A 32).length; omega)) (by show (A 33).length = (A 33).length; omega)) (by show (A 34).length = (A 34).length; omega)) (by show (A 36).length = (A 36).length; omega)) (by show (A 37).length = (A 37).length; omega)) (by show (wr (A 35) x 0).length = (A 35).length; simp only [wr_len])) (by show (wr (A 30) x 2).length = (A 30).length; simp only [wr_len])) (by show (wr (A 31) x v29).length = (A 31).length; simp only [wr_len])) h5 ⟨by (show 0 ≤ a29); omega, by (show a29 ≤ F 5); omega⟩) (fun r G9 hp9 => ?_)
                obtain ⟨b30, a30, rfl, rfl, hb30, hw30, p30, q30⟩ := hp9
                have p30 : 0 ≤ a30 := p30
                have q30 : a30 ≤ F 5 := q30
                refine R_s (f' := (6, [some (vR 17), some (vR 29), some (vI x)], [vI b30], LAY (u (u (u (u (u (u (u (u A 32 (A 32)) 33 (A 33)) 34 (A 34)) 36 (A 36)) 37 (A 37)) 35 (wr (A 35) x 0)) 30 (wr (A 30) x 2)) 31 (wr (A 31) x v29)) (u (u F 7 v29) 6 a30), 0, 0)) hc47 0 rfl trivial ?_
                refine R_if (t := 17) hc47 rfl rfl (fun (c8 : b30 = 0) => ?_) (fun (c8 : ¬ (b30 = 0)) => ?_)
                · refine R_s (P := True) (f' := (18, [some (vR 17), some (vR 29), some (vI x)], [vI 0], LAY (u (u (u (u (u (u (u (u A 32 (A 32)) 33 (A 33)) 34 (A 34)) 36 (A 36)) 37 (A 37)) 35 (wr (A 35) x 0)) 30 (wr (A 30) x 2)) 31 (wr (A 31) x v29)) (u (u F 7 v29) 6 a30), 0, 0)) hc47 1 rfl trivial ?_
                  refine R_retz hc47 rfl rfl (Or.inl rfl) ?_
                  refine R_s (f' := (42, [some (vR 17), some (vR 29), some (vI x)], [vI 0], LAY (u (u (u (u (u (u (u (u A 32 (A 32)) 33 (A 33)) 34 (A 34)) 36 (A 36)) 37 (A 37)) 35 (wr (A 35) x 0)) 30 (wr (A 30) x 2)) 31 (wr (A 31) x v29)) (u (u F 7 v29) 6 a30), 0, 0)) hc42 0 rfl trivial ?_
                  refine R_retz hc42 rfl rfl (Or.inl rfl) ?_
                  refine R_s (f' := (114, [some (vR 17), some (vR 29), some (vI x), some (vI 0), some (vI (nx (A 18) (F 5) (F 6)))], [vI 0], LAY (u (u (u (u (u (u (u (u A 32 (A 32)) 33 (A 33)) 34 (A 34)) 36 (A 36)) 37 (A 37)) 35 (wr (A 35) x 0)) 30 (wr (A 30) x 2)) 31 (wr (A 31) x v29)) (u (u F 7 v29) 6 a30), 0, 0)) hc39 0 rfl trivial ?_
                  refine R_if (t := 130) hc39 rfl rfl (fun (_ : 0 = 0) => ?_) (fun (z : ¬ (0 = 0)) => absurd (by decide) z)
                  refine R_s (P := True) (f' := (131, [some (vR 17), some (vR 29), some (vI x), some (vI 0), some (vI (nx (A 18) (F 5) (F 6)))], [vI 0], LAY (u (u (u (u (u (u (u (u A 32 (A 32)) 33 (A 33)) 34 (A 34)) 36 (A 36)) 37 (A 37)) 35 (wr (A 35) x 0)) 30 (wr (A 30) x 2)) 31 (wr (A 31) x v29)) (u (u F 7 v29) 6 a30), 0, 0)) hc39 1 rfl trivial ?_
                  refine R_retz hc39 rfl rfl (Or.inl rfl) ⟨0, wr (A 30) x 2, wr (A 31) x v29, A 32, A 33, A 34, wr (A 35) x 0, A 36, A 37, a30, v29, rfl, rfl, (by (try simp only [wr_len]); omega), (by (try simp only [wr_len]); omega), (by (try simp only [wr_len]); omega), (by (try simp only [wr_len]); omega), (by (try simp only [wr_len]); omega), (by (try simp only [wr_len]); omega), (by (try simp only [wr_len]); omega), (by (try simp only [wr_len]); omega), by decide, by omega, by omega, fun q hq => by rw [rd_wr_n (by omega) (by omega) (by omega)], fun q hq => by rw [rd_wr_n (by omega) (by omega) (by omega)], fun _ _ => rfl, fun _ _ => rfl, fun _ _ => rfl, fun q hq => by rw [rd_wr_n (by omega) (by omega) (by omega)], fun _ _ => rfl, fun _ _ => rfl, ?_⟩
                  have ehw28 : b28 = 1 := by omega
                  rw [ehw28] at hw28
                  have hw28n : wD (A 18) (F 5) MAN (0, F 6) = (0, a28) := hw28
                  have ehw29 : b29 = 1 := by omega
                  rw [ehw29] at hw29
                  have hw29n : dG (A 18) (F 5) 4 (0, a28) = ((0, a29), v29) := hw29
                  have ehw30 : b30 = 0 := by omega
                  rw [ehw30] at hw30
                  have hw30n : wD (A 18) (F 5) PP (0, a29) = (1, a30) := hw30
                  have hk : eK (A 18) (F 5) i (0, F 6) = 2 := by
                    unfold eK
                    (try dsimp only)
                    rw [if_neg (fun z => by omega)]
                    rw [if_neg (fun z => by omega)]
                    rw [if_pos ⟨by omega, by omega⟩]
                  have eP : pN (A 18) (F 5) MAN (0, F 6) = ((0, a29), v29) := by unfold pN; rw [hw28n, hw29n]
                  have eR : pR (A 18) (F 5) MAN (0, F 6) = ((1, a30), 0) := by
                    unfold pR
                    rw [eP]
                    (try dsimp only)
                    rw [hw30n]
                    rw [dG_f]
                  have eT : tB (A 18) (F 5) i (0, F 6) = (1, a30) := by rw [(eN_2 hk).2, eR]
                  have eS : eN (A 18) (F 5) i (0, F 6) = (1, a30) := by rw [(eN_2 hk).1, eT, tS_f]
                  exact ⟨eS, fun z => absurd z (by decide)⟩
                · refine R_s (P := True) (f' := (11, [some (vR 17), some (vR 29), some (vI x)], [vI 2, vR 17], LAY (u (u (u (u (u (u (u (u A 32 (A 32)) 33 (A 33)) 34 (A 34)) 36 (A 36)) 37 (A 37)) 35 (wr (A 35) x 0)) 30 (wr (A 30) x 2)) 31 (wr (A 31) x v29)) (u (u F 7 v29) 6 a30), 0, 0)) hc47 2 rfl trivial ?_
                  refine R_cv hc47 rfl rfl (l_numb (A := (u (u (u (u (u (u (u (u A 32 (A 32)) 33 (A 33)) 34 (A 34)) 36 (A 36)) 37 (A 37)) 35 (wr (A 35) x 0)) 30 (wr (A 30) x 2)) 31 (wr (A 31) x v29))) (F := (u (u F 7 v29) 6 a30)) (LENS_u (LENS_u (LENS_u (LENS_u (LENS_u (LENS_u (LENS_u (LENS_u hL (by show (A 32).length = (A 32).length; omega)) (by show (A 33).length = (A 33).length; omega)) (by show (A 34).length = (A 34).length; omega)) (by show (A 36).length = (A 36).length; omega)) (by show (A 37).length = (A 37).length; omega)) (by show (wr (A 35) x 0).length = (A 35).length; simp only [wr_len])) (by show (wr (A 30) x 2).length = (A 30).length; simp only [wr_len])) (by show (wr (A 31) x v29).length = (A 31).length; simp only [wr_len])) h5 ⟨by (show 0 ≤ a30); omega, by (show a30 ≤ F 5); omega⟩ (kk := 2) (by decide) rfl) (fun r G9 hp9 => ?_)
                  obtain ⟨b31, a31, v31, rfl, rfl, hb31, hw31, p31, q31, w31⟩ := hp9
                  have p31 : 0 ≤ a31 := p31
                  have q31 : a31 ≤ F 5 := q31
                  refine R_s (f' := (14, [some (vR 17), some (vR 29), some (vI x)], [vI b31], LAY (u (u (u (u (u (u (u (u A 32 (A 32)) 33 (A 33)) 34 (A 34)) 36 (A 36)) 37 (A 37)) 35 (wr (A 35) x 0)) 30 (wr (A 30) x 2)) 31 (wr (A 31) x v29)) (u (u F 6 a31) 7 v31), 0, 0)) hc47 0 rfl trivial ?_
                  refine R_if (t := 19) hc47 rfl rfl (fun (c9 : ¬ b31 = 0) => ?_) (fun (c9 : ¬ (¬ b31 = 0)) => ?_)
                  · refine R_s (P := (0 ≤ x ∧ x < ((A 32).length : Int)) ∧ True) (f' := (30, [some (vR 17), some (vR 29), some (vI x)], [vI 1], LAY (u (u (u (u (u (u (u (u A 33 (A 33)) 34 (A 34)) 36 (A 36)) 37 (A 37)) 35 (wr (A 35) x 0)) 30 (wr (A 30) x 2)) 31 (wr (A 31) x v29)) 32 (wr (A 32) x v31)) (u (u F 6 a31) 7 v31), 0, 0)) hc47 7 rfl ⟨⟨by omega, by omega⟩, trivial⟩ ?_
                    refine R_retz hc47 rfl rfl (Or.inr rfl) ?_
                    refine R_s (f' := (42, [some (vR 17), some (vR 29), some (vI x)], [vI 1], LAY (u (u (u (u (u (u (u (u A 33 (A 33)) 34 (A 34)) 36 (A 36)) 37 (A 37)) 35 (wr (A 35) x 0)) 30 (wr (A 30) x 2)) 31 (wr (A 31) x v29)) 32 (wr (A 32) x v31)) (u (u F 6 a31) 7 v31), 0, 0)) hc42 0 rfl trivial ?_
                    refine R_retz hc42 rfl rfl (Or.inr rfl) ?_
                    refine R_s (f' := (114, [some (vR 17), some (vR 29), some (vI x), some (vI 0), some (vI (nx (A 18) (F 5) (F 6)))], [vI 1], LAY (u (u (u (u (u (u (u (u A 33 (A 33)) 34 (A 34)) 36 (A 36)) 37 (A 37)) 35 (wr (A 35) x 0)) 30 (wr (A 30) x 2)) 31 (wr (A 31) x v29)) 32 (wr (A 32) x v31)) (u (u F 6 a31) 7 v31), 0, 0)) hc39 0 rfl trivial ?_
                    refine R_if (t := 130) hc39 rfl rfl (fun (z : 1 = 0) => absurd z (by decide)) (fun (_ : ¬ (1 = 0)) => ?_)
                    refine R_s (P := True) (f' := (120, [some (vR 17), some (vR 29), some (vI x), some (vI 0), some (vI (nx (A 18) (F 5) (F 6)))], [vI x, vR 29, vR 17], LAY (u (u (u (u (u (u (u (u A 33 (A 33)) 34 (A 34)) 36 (A 36)) 37 (A 37)) 35 (wr (A 35) x 0)) 30 (wr (A 30) x 2)) 31 (wr (A 31) x v29)) 32 (wr (A 32) x v31)) (u (u F 6 a31) 7 v31), 0, 0)) hc39 3 rfl trivial ?_
                    refine R_cv hc39 rfl rfl (l_rtest1 (A := (u (u (u (u (u (u (u (u A 33 (A 33)) 34 (A 34)) 36 (A 36)) 37 (A 37)) 35 (wr (A 35) x 0)) 30 (wr (A 30) x 2)) 31 (wr (A 31) x v29)) 32 (wr (A 32) x v31))) (F := (u (u F 6 a31) 7 v31)) (LENS_u (LENS_u (LENS_u (LENS_u (LENS_u (LENS_u (LENS_u (LENS_u hL (by show (A 33).length = (A 33).length; omega)) (by show (A 34).length = (A 34).length; omega)) (by show (A 36).length = (A 36).length; omega)) (by show (A 37).length = (A 37).length; omega)) (by show (wr (A 35) x 0).length = (A 35).length; simp only [wr_len])) (by show (wr (A 30) x 2).length = (A 30).length; simp only [wr_len])) (by show (wr (A 31) x v29).length = (A 31).length; simp only [wr_len])) (by show (wr (A 32) x v31).length = (A 32).length; simp only [wr_len])) h5 ⟨by (show 0 ≤ a31); omega, by (show a31 ≤ F 5); omega⟩ ex hi (by show rd (wr (A 35) x 0) i = 0; rw [← ex]; exact rd_wr_s (by omega) (by omega))) (fun r G9 hp9 => ?_)
                    obtain ⟨b32, s5_32, s6_32, s7_32, a32, v32, rfl, rfl, l32_5, l32_6, l32_7, hb32, p32, q32, kp32_5, kp32_6, kp32_7, hw32, hv32⟩ := hp9
                    have q32 : a32 ≤ F 5 := q32
                    have kp32_5 : ∀ q : Nat, q ≠ i → rd s5_32 q = rd (wr (A 35) x 0) q := kp32_5
                    have kp32_6 : ∀ q : Nat, q ≠ i → rd s6_32 q = rd (A 36) q := kp32_6
                    have kp32_7 : ∀ q : Nat, q ≠ i → rd s7_32 q = rd (A 37) q := kp32_7
                    refine R_s (f' := (123, [some (vR 17), some (vR 29), some (vI x), some (vI 0), some (vI (nx (A 18) (F 5) (F 6)))], [vI b32], LAY (u (u (u (u (u (u (u (u A 33 (A 33)) 34 (A 34)) 30 (wr (A 30) x 2)) 31 (wr (A 31) x v29)) 32 (wr (A 32) x v31)) 35 s5_32) 36 s6_32) 37 s7_32) (u (u F 6 a32) 7 v32), 0, 0)) hc39 0 rfl trivial ?_
                    refine R_if (t := 130) hc39 rfl rfl (fun (c11 : b32 = 0) => ?_) (fun (c11 : ¬ (b32 = 0)) => ?_)
                    · refine R_s (P := True) (f' := (131, [some (vR 17), some (vR 29), some (vI x), some (vI 0), some (vI (nx (A 18) (F 5) (F 6)))], [vI 0], LAY (u (u (u (u (u (u (u (u A 33 (A 33)) 34 (A 34)) 30 (wr (A 30) x 2)) 31 (wr (A 31) x v29)) 32 (wr (A 32) x v31)) 35 s5_32) 36 s6_32) 37 s7_32) (u (u F 6 a32) 7 v32), 0, 0)) hc39 1 rfl trivial ?_
                      refine R_retz hc39 rfl rfl (Or.inl rfl) ⟨0, wr (A 30) x 2, wr (A 31) x v29, wr (A 32) x v31, A 33, A 34, s5_32, s6_32, s7_32, a32, v32, rfl, rfl, (by (try simp only [wr_len]); omega), (by (try simp only [wr_len]); omega), (by (try simp only [wr_len]); omega), (by (try simp only [wr_len]); omega), (by (try simp only [wr_len]); omega), (by (try simp only [wr_len]); omega), (by (try simp only [wr_len]); omega), (by (try simp only [wr_len]); omega), by decide, by omega, by omega, fun q hq => by rw [rd_wr_n (by omega) (by omega) (by omega)], fun q hq => by rw [rd_wr_n (by omega) (by omega) (by omega)], fun q hq => by rw [rd_wr_n (by omega) (by omega) (by omega)], fun _ _ => rfl, fun _ _ => rfl, fun q hq => by rw [kp32_5 q hq, rd_wr_n (by omega) (by omega) (by omega)], fun q hq => by rw [kp32_6 q hq], fun q hq => by rw [kp32_7 q hq], ?_⟩
                      have ehw28 : b28 = 1 := by omega
                      rw [ehw28] at hw28
                      have hw28n : wD (A 18) (F 5) MAN (0, F 6) = (0, a28) := hw28
                      have ehw29 : b29 = 1 := by omega
                      rw [ehw29] at hw29
                      have hw29n : dG (A 18) (F 5) 4 (0, a28) = ((0, a29), v29) := hw29
                      have ehw30 : b30 = 1 := by omega
                      rw [ehw30] at hw30
                      have hw30n : wD (A 18) (F 5) PP (0, a29) = (0, a30) := hw30
                      have ehw31 : b31 = 1 := by omega
                      rw [ehw31] at hw31
                      have hw31n : dG (A 18) (F 5) 2 (0, a30) = ((0, a31), v31) := hw31
                      have ehw32 : b32 = 0 := by omega
                      rw [ehw32] at hw32
                      have hw32n : tS (A 18) (F 5) (0, a31) = (1, a32) := hw32
                      have hk : eK (A 18) (F 5) i (0, F 6) = 2 := by
                        unfold eK
                        (try dsimp only)
                        rw [if_neg (fun z => by omega)]
                        rw [if_neg (fun z => by omega)]
                        rw [if_pos ⟨by omega, by omega⟩]
                      have eP : pN (A 18) (F 5) MAN (0, F 6) = ((0, a29), v29) := by unfold pN; rw [hw28n, hw29n]
                      have eR : pR (A 18) (F 5) MAN (0, F 6) = ((0, a31), v31) := by
                        unfold pR
                        rw [eP]
                        (try dsimp only)
                        rw [hw30n]
                        rw [hw31n]
                      have eT : tB (A 18) (F 5) i (0, F 6) = (0, a31) := by rw [(eN_2 hk).2, eR]
                      have eS : eN (A 18) (F 5) i (0, F 6) = (1, a32) := by rw [(eN_2 hk).1, eT]; exact hw32n
                      exact ⟨eS, fun z => absurd z (by decide)⟩
                    · refine R_s (P := True) (f' := (131, [some (vR 17), some (vR 29), some (vI x), some (vI 0), some (vI (nx (A 18) (F 5) (F 6)))], [vI 1], LAY (u (u (u (u (u (u (u (u A 33 (A 33)) 34 (A 34)) 30 (wr (A 30) x 2)) 31 (wr (A 31) x v29)) 32 (wr (A 32) x v31)) 35 s5_32) 36 s6_32) 37 s7_32) (u (u F 6 a32) 7 v32), 0, 0)) hc39 2 rfl trivial ?_
                      refine R_retz hc39 rfl rfl (Or.inr rfl) ⟨1, wr (A 30) x 2, wr (A 31) x v29, wr (A 32) x v31, A 33, A 34, s5_32, s6_32, s7_32, a32, v32, rfl, rfl, (by (try simp only [wr_len]); omega), (by (try simp only [wr_len]); omega), (by (try simp only [wr_len]); omega), (by (try simp only [wr_len]); omega), (by (try simp only [wr_len]); omega), (by (try simp only [wr_len]); omega), (by (try simp only [wr_len]); omega), (by (try simp only [wr_len]); omega), by decide, by omega, by omega, fun q hq => by rw [rd_wr_n (by omega) (by omega) (by omega)], fun q hq => by rw [rd_wr_n (by omega) (by omega) (by omega)], fun q hq => by rw [rd_wr_n (by omega) (by omega) (by omega)], fun _ _ => rfl, fun _ _ => rfl, fun q hq => by rw [kp32_5 q hq, rd_wr_n (by omega) (by omega) (by omega)], fun q hq => by rw [kp32_6 q hq], fun q hq => by rw [kp32_7 q hq], ?_⟩
                      have ehw28 : b28 = 1 := by omega
                      rw [ehw28] at hw28
                      have hw28n : wD (A 18) (F 5) MAN (0, F 6) = (0, a28) := hw28
                      have ehw29 : b29 = 1 := by omega
                      rw [ehw29] at hw29
                      have hw29n : dG (A 18) (F 5) 4 (0, a28) = ((0, a29), v29) := hw29
                      have ehw30 : b30 = 1 := by omega
                      rw [ehw30] at hw30
                      have hw30n : wD (A 18) (F 5) PP (0, a29) = (0, a30) := hw30
                      have ehw31 : b31 = 1 := by omega
                      rw [ehw31] at hw31
                      have hw31n : dG (A 18) (F 5) 2 (0, a30) = ((0, a31), v31) := hw31
                      have ehw32 : b32 = 1 := by omega
                      rw [ehw32] at hw32
                      have hw32n : tS (A 18) (F 5) (0, a31) = (0, a32) := hw32
                      have hk : eK (A 18) (F 5) i (0, F 6) = 2 := by
                        unfold eK
                        (try dsimp only)
                        rw [if_neg (fun z => by omega)]
                        rw [if_neg (fun z => by omega)]
                        rw [if_pos ⟨by omega, by omega⟩]
                      have eP : pN (A 18) (F 5) MAN (0, F 6) = ((0, a29), v29) := by unfold pN; rw [hw28n, hw29n]
                      have eR : pR (A 18) (F 5) MAN (0, F 6) = ((0, a31), v31) := by
                        unfold pR
                        rw [eP]
                        (try dsimp only)
                        rw [hw30n]
                        rw [hw31n]
                      have eT : tB (A 18) (F 5) i (0, F 6) = (0, a31) := by rw [(eN_2 hk).2, eR]
                      have eS : eN (A 18) (F 5) i (0, F 6) = (0, a32) := by rw [(eN_2 hk).1, eT]; exact hw32n
                      have r0 : rd (wr (A 30) x 2) i = 2 := by rw [← ex]; exact rd_wr_s (by omega) (by (try simp only [wr_len]); omega)
                      have r1 : rd (wr (A 31) x v29) i = v29 := by rw [← ex]; exact rd_wr_s (by omega) (by (try simp only [wr_len]); omega)
                      have r2 : rd (wr (A 32) x v31) i = v31 := by rw [← ex]; exact rd_wr_s (by omega) (by (try simp only [wr_len]); omega)
                      exact ⟨eS, fun _ => ⟨by rw [r0, hk], fun z => absurd z (by rw [r0]; decide), fun z => absurd z (by rw [r0]; decide), fun _ => ⟨by rw [r1, eP], by rw [r2, eR]⟩, fun z => absurd z (by rw [r0]; decide), fun _ => by
                        rw [eT]
                        have z := hv32 (by omega)
                        exact ⟨z.1, z.2.imp (fun w => by rw [z.1, w]; rfl) id⟩⟩⟩
                  · refine R_s (P := True) (f' := (18, [some (vR 17), some (vR 29), some (vI x)], [vI 0], LAY (u (u (u (u (u (u (u (u A 32 (A 32)) 33 (A 33)) 34 (A 34)) 36 (A 36)) 37 (A 37)) 35 (wr (A 35) x 0)) 30 (wr (A 30) x 2)) 31 (wr (A 31) x v29)) (u (u F 6 a31) 7 v31), 0, 0)) hc47 1 rfl trivial ?_
                    refine R_retz hc47 rfl rfl (Or.inl rfl) ?_
                    refine R_s (f' := (42, [some (vR 17), some (vR 29), some (vI x)], [vI 0], LAY (u (u (u (u (u (u (u (u A 32 (A 32)) 33 (A 33)) 34 (A 34)) 36 (A 36)) 37 (A 37)) 35 (wr (A 35) x 0)) 30 (wr (A 30) x 2)) 31 (wr (A 31) x v29)) (u (u F 6 a31) 7 v31), 0, 0)) hc42 0 rfl trivial ?_
                    refine R_retz hc42 rfl rfl (Or.inl rfl) ?_
                    refine R_s (f' := (114, [some (vR 17), some (vR 29), some (vI x), some (vI 0), some (vI (nx (A 18) (F 5) (F 6)))], [vI 0], LAY (u (u (u (u (u (u (u (u A 32 (A 32)) 33 (A 33)) 34 (A 34)) 36 (A 36)) 37 (A 37)) 35 (wr (A 35) x 0)) 30 (wr (A 30) x 2)) 31 (wr (A 31) x v29)) (u (u F 6 a31) 7 v31), 0, 0)) hc39 0 rfl trivial ?_
                    refine R_if (t := 130) hc39 rfl rfl (fun (_ : 0 = 0) => ?_) (fun (z : ¬ (0 = 0)) => absurd (by decide) z)
                    refine R_s (P := True) (f' := (131, [some (vR 17), some (vR 29), some (vI x), some (vI 0), some (vI (nx (A 18) (F 5) (F 6)))], [vI 0], LAY (u (u (u (u (u (u (u (u A 32 (A 32)) 33 (A 33)) 34 (A 34)) 36 (A 36)) 37 (A 37)) 35 (wr (A 35) x 0)) 30 (wr (A 30) x 2)) 31 (wr (A 31) x v29)) (u (u F 6 a31) 7 v31), 0, 0)) hc39 1 rfl trivial ?_
                    refine R_retz hc39 rfl rfl (Or.inl rfl) ⟨0, wr (A 30) x 2, wr (A 31) x v29, A 32, A 33, A 34, wr (A 35) x 0, A 36, A 37, a31, v31, rfl, rfl, (by (try simp only [wr_len]); omega), (by (try simp only [wr_len]); omega), (by (try simp only [wr_len]); omega), (by (try simp only [wr_len]); omega), (by (try simp only [wr_len]); omega), (by (try simp only [wr_len]); omega), (by (try simp only [wr_len]); omega), (by (try simp only [wr_len]); omega), by decide, by omega, by omega, fun q hq => by rw [rd_wr_n (by omega) (by omega) (by omega)], fun q hq => by rw [rd_wr_n (by omega) (by omega) (by omega)], fun _ _ => rfl, fun _ _ => rfl, fun _ _ => rfl, fun q hq => by rw [rd_wr_n (by omega) (by omega) (by omega)], fun _ _ => rfl, fun _ _ => rfl, ?_⟩
                    have ehw28 : b28 = 1 := by omega
                    rw [ehw28] at hw28
                    have hw28n : wD (A 18) (F 5) MAN (0, F 6) = (0, a28) := hw28
                    have ehw29 : b29 = 1 := by omega
                    rw [ehw29] at hw29
                    have hw29n : dG (A 18) (F 5) 4 (0, a28) = ((0, a29), v29) := hw29
                    have ehw30 : b30 = 1 := by omega
                    rw [ehw30] at hw30
                    have hw30n : wD (A 18) (F 5) PP (0, a29) = (0, a30) := hw30
                    have ehw31 : b31 = 0 := by omega
                    rw [ehw31] at hw31
                    have hw31n : dG (A 18) (F 5) 2 (0, a30) = ((1, a31), v31) := hw31
                    have hk : eK (A 18) (F 5) i (0, F 6) = 2 := by
                      unfold eK
                      (try dsimp only)
                      rw [if_neg (fun z => by omega)]
                      rw [if_neg (fun z => by omega)]
                      rw [if_pos ⟨by omega, by omega⟩]
                    have eP : pN (A 18) (F 5) MAN (0, F 6) = ((0, a29), v29) := by unfold pN; rw [hw28n, hw29n]
                    have eR : pR (A 18) (F 5) MAN (0, F 6) = ((1, a31), v31) := by
                      unfold pR
                      rw [eP]
                      (try dsimp only)
                      rw [hw30n]
                      rw [hw31n]
                    have eT : tB (A 18) (F 5) i (0, F 6) = (1, a31) := by rw [(eN_2 hk).2, eR]
                    have eS : eN (A 18) (F 5) i (0, F 6) = (1, a31) := by rw [(eN_2 hk).1, eT, tS_f]
                    exact ⟨eS, fun z => absurd z (by decide)⟩
              · refine R_s (P := True) (f' := (25, [some (vR 17), some (vR 29), some (vI x)], [vI 0], LAY (u (u (u (u (u (u (u (u A 31 (A 31)) 32 (A 32)) 33 (A 33)) 34 (A 34)) 36 (A 36)) 37 (A 37)) 35 (wr (A 35) x 0)) 30 (wr (A 30) x 2)) (u (u F 6 a29) 7 v29), 0, 0)) hc42 1 rfl trivial ?_
                refine R_retz hc42 rfl rfl (Or.inl rfl) ?_
                refine R_s (f' := (114, [some (vR 17), some (vR 29), some (vI x), some (vI 0), some (vI (nx (A 18) (F 5) (F 6)))], [vI 0], LAY (u (u (u (u (u (u (u (u A 31 (A 31)) 32 (A 32)) 33 (A 33)) 34 (A 34)) 36 (A 36)) 37 (A 37)) 35 (wr (A 35) x 0)) 30 (wr (A 30) x 2)) (u (u F 6 a29) 7 v29), 0, 0)) hc39 0 rfl trivial ?_
                refine R_if (t := 130) hc39 rfl rfl (fun (_ : 0 = 0) => ?_) (fun (z : ¬ (0 = 0)) => absurd (by decide) z)
                refine R_s (P := True) (f' := (131, [some (vR 17), some (vR 29), some (vI x), some (vI 0), some (vI (nx (A 18) (F 5) (F 6)))], [vI 0], LAY (u (u (u (u (u (u (u (u A 31 (A 31)) 32 (A 32)) 33 (A 33)) 34 (A 34)) 36 (A 36)) 37 (A 37)) 35 (wr (A 35) x 0)) 30 (wr (A 30) x 2)) (u (u F 6 a29) 7 v29), 0, 0)) hc39 1 rfl trivial ?_
                refine R_retz hc39 rfl rfl (Or.inl rfl) ⟨0, wr (A 30) x 2, A 31, A 32, A 33, A 34, wr (A 35) x 0, A 36, A 37, a29, v29, rfl, rfl, (by (try simp only [wr_len]); omega), (by (try simp only [wr_len]); omega), (by (try simp only [wr_len]); omega), (by (try simp only [wr_len]); omega), (by (try simp only [wr_len]); omega), (by (try simp only [wr_len]); omega), (by (try simp only [wr_len]); omega), (by (try simp only [wr_len]); omega), by decide, by omega, by omega, fun q hq => by rw [rd_wr_n (by omega) (by omega) (by omega)], fun _ _ => rfl, fun _ _ => rfl, fun _ _ => rfl, fun _ _ => rfl, fun q hq => by rw [rd_wr_n (by omega) (by omega) (by omega)], fun _ _ => rfl, fun _ _ => rfl, ?_⟩
                have ehw28 : b28 = 1 := by omega
                rw [ehw28] at hw28
                have hw28n : wD (A 18) (F 5) MAN (0, F 6) = (0, a28) := hw28
                have ehw29 : b29 = 0 := by omega
                rw [ehw29] at hw29
                have hw29n : dG (A 18) (F 5) 4 (0, a28) = ((1, a29), v29) := hw29
                have hk : eK (A 18) (F 5) i (0, F 6) = 2 := by
                  unfold eK
                  (try dsimp only)
                  rw [if_neg (fun z => by omega)]
                  rw [if_neg (fun z => by omega)]
                  rw [if_pos ⟨by omega, by omega⟩]
                have eP : pN (A 18) (F 5) MAN (0, F 6) = ((1, a29), v29) := by unfold pN; rw [hw28n, hw29n]
                have eR : pR (A 18) (F 5) MAN (0, F 6) = ((1, a29), 0) := by
                  unfold pR
                  rw [eP]
                  (try dsimp only)
                  rw [wD_f]
                  rw [dG_f]
                have eT : tB (A 18) (F 5) i (0, F 6) = (1, a29) := by rw [(eN_2 hk).2, eR]
                have eS : eN (A 18) (F 5) i (0, F 6) = (1, a29) := by rw [(eN_2 hk).1, eT, tS_f]
                exact ⟨eS, fun z => absurd z (by decide)⟩
      · refine R_s (P := True) (f' := (70, [some (vR 17), some (vR 29), some (vI x), some (vI 0), some (vI (nx (A 18) (F 5) (F 6)))], [vI 0], LAY (u (u (u (u (u (u (u (u A 30 (A 30)) 31 (A 31)) 32 (A 32)) 33 (A 33)) 34 (A 34)) 36 (A 36)) 37 (A 37)) 35 (wr (A 35) x 0)) (u (u F 6 (F 6)) 7 (F 7)), 0, 0)) hc39 1 rfl trivial ?_
        refine R_if (t := 97) hc39 rfl rfl (fun (z : ¬ 0 = 0) => absurd z (by decide)) (fun (_ : ¬ (¬ 0 = 0)) => ?_)
        refine R_s (P := True) (f' := (76, [some (vR 17), some (vR 29), some (vI x), some (vI 0), some (vI (nx (A 18) (F 5) (F 6)))], [vI x, vR 29, vR 17], LAY (u (u (u (u (u (u (u (u A 30 (A 30)) 31 (A 31)) 32 (A 32)) 33 (A 33)) 34 (A 34)) 36 (A 36)) 37 (A 37)) 35 (wr (A 35) x 0)) (u (u F 6 (F 6)) 7 (F 7)), 0, 0)) hc39 3 rfl trivial ?_
        refine R_cv hc39 rfl rfl ?_ (fun r G h => h)
        refine R_s (P := (0 ≤ x ∧ x < ((A 30).length : Int)) ∧ True) (f' := (10, [some (vR 17), some (vR 29), some (vI x)], [vS 7, vR 17], LAY (u (u (u (u (u (u (u (u A 31 (A 31)) 32 (A 32)) 33 (A 33)) 34 (A 34)) 36 (A 36)) 37 (A 37)) 35 (wr (A 35) x 0)) 30 (wr (A 30) x 1)) (u (u F 6 (F 6)) 7 (F 7)), 0, 0)) hc41 7 rfl ⟨⟨by omega, by omega⟩, trivial⟩ ?_
        refine R_cv hc41 rfl rfl (l_word7 (A := (u (u (u (u (u (u (u (u A 31 (A 31)) 32 (A 32)) 33 (A 33)) 34 (A 34)) 36 (A 36)) 37 (A 37)) 35 (wr (A 35) x 0)) 30 (wr (A 30) x 1))) (F := (u (u F 6 (F 6)) 7 (F 7))) (LENS_u (LENS_u (LENS_u (LENS_u (LENS_u (LENS_u (LENS_u (LENS_u hL (by show (A 31).length = (A 31).length; omega)) (by show (A 32).length = (A 32).length; omega)) (by show (A 33).length = (A 33).length; omega)) (by show (A 34).length = (A 34).length; omega)) (by show (A 36).length = (A 36).length; omega)) (by show (A 37).length = (A 37).length; omega)) (by show (wr (A 35) x 0).length = (A 35).length; simp only [wr_len])) (by show (wr (A 30) x 1).length = (A 30).length; simp only [wr_len])) h5 ⟨by (show 0 ≤ F 6); omega, by (show F 6 ≤ F 5); omega⟩) (fun r G9 hp9 => ?_)
        obtain ⟨b33, a33, rfl, rfl, hb33, hw33, p33, q33⟩ := hp9
        have p33 : 0 ≤ a33 := p33
        have q33 : a33 ≤ F 5 := q33
        refine R_s (f' := (13, [some (vR 17), some (vR 29), some (vI x)], [vI b33], LAY (u (u (u (u (u (u (u (u A 31 (A 31)) 32 (A 32)) 33 (A 33)) 34 (A 34)) 36 (A 36)) 37 (A 37)) 35 (wr (A 35) x 0)) 30 (wr (A 30) x 1)) (u (u F 7 (F 7)) 6 a33), 0, 0)) hc41 0 rfl trivial ?_
        refine R_if (t := 24) hc41 rfl rfl (fun (c12 : b33 = 0) => ?_) (fun (c12 : ¬ (b33 = 0)) => ?_)
        · refine R_s (P := True) (f' := (25, [some (vR 17), some (vR 29), some (vI x)], [vI 0], LAY (u (u (u (u (u (u (u (u A 31 (A 31)) 32 (A 32)) 33 (A 33)) 34 (A 34)) 36 (A 36)) 37 (A 37)) 35 (wr (A 35) x 0)) 30 (wr (A 30) x 1)) (u (u F 7 (F 7)) 6 a33), 0, 0)) hc41 1 rfl trivial ?_
          refine R_retz hc41 rfl rfl (Or.inl rfl) ?_
          refine R_s (f' := (79, [some (vR 17), some (vR 29), some (vI x), some (vI 0), some (vI (nx (A 18) (F 5) (F 6)))], [vI 0], LAY (u (u (u (u (u (u (u (u A 31 (A 31)) 32 (A 32)) 33 (A 33)) 34 (A 34)) 36 (A 36)) 37 (A 37)) 35 (wr (A 35) x 0)) 30 (wr (A 30) x 1)) (u (u F 7 (F 7)) 6 a33), 0, 0)) hc39 0 rfl trivial ?_
          refine R_if (t := 95) hc39 rfl rfl (fun (_ : 0 = 0) => ?_) (fun (z : ¬ (0 = 0)) => absurd (by decide) z)
          refine R_s (P := True) (f' := (96, [some (vR 17), some (vR 29), some (vI x), some (vI 0), some (vI (nx (A 18) (F 5) (F 6)))], [vI 0], LAY (u (u (u (u (u (u (u (u A 31 (A 31)) 32 (A 32)) 33 (A 33)) 34 (A 34)) 36 (A 36)) 37 (A 37)) 35 (wr (A 35) x 0)) 30 (wr (A 30) x 1)) (u (u F 7 (F 7)) 6 a33), 0, 0)) hc39 1 rfl trivial ?_
          refine R_retz hc39 rfl rfl (Or.inl rfl) ⟨0, wr (A 30) x 1, A 31, A 32, A 33, A 34, wr (A 35) x 0, A 36, A 37, a33, F 7, rfl, rfl, (by (try simp only [wr_len]); omega), (by (try simp only [wr_len]); omega), (by (try simp only [wr_len]); omega), (by (try simp only [wr_len]); omega), (by (try simp only [wr_len]); omega), (by (try simp only [wr_len]); omega), (by (try simp only [wr_len]); omega), (by (try simp only [wr_len]); omega), by decide, by omega, by omega, fun q hq => by rw [rd_wr_n (by omega) (by omega) (by omega)], fun _ _ => rfl, fun _ _ => rfl, fun _ _ => rfl, fun _ _ => rfl, fun q hq => by rw [rd_wr_n (by omega) (by omega) (by omega)], fun _ _ => rfl, fun _ _ => rfl, ?_⟩
          have ehw33 : b33 = 0 := by omega
          rw [ehw33] at hw33
          have hw33n : wD (A 18) (F 5) LINE (0, F 6) = (1, a33) := hw33
          have hk : eK (A 18) (F 5) i (0, F 6) = 1 := by
            unfold eK
            (try dsimp only)
            rw [if_neg (fun z => by omega)]
            rw [if_pos ⟨by omega, by omega⟩]
          have eP : pN (A 18) (F 5) LINE (0, F 6) = ((1, a33), 0) := by unfold pN; rw [hw33n, dG_f]
          have eR : pR (A 18) (F 5) LINE (0, F 6) = ((1, a33), 0) := by
            unfold pR
            rw [eP]
            (try dsimp only)
            rw [wD_f]
            rw [dG_f]
          have eL : pL (A 18) (F 5) (0, F 6) = (1, a33) := by
            unfold pL
            rw [eR]
            (try dsimp only)
            rw [wD_f]
          have eT : tB (A 18) (F 5) i (0, F 6) = (1, a33) := by
            rw [(eN_1 hk).2, eL]
            split
            · exact wD_f _
            · exact wD_f _
          have eS : eN (A 18) (F 5) i (0, F 6) = (1, a33) := by rw [(eN_1 hk).1, eT, tS_f]
          exact ⟨eS, fun z => absurd z (by decide)⟩
        · refine R_s (P := True) (f' := (18, [some (vR 17), some (vR 29), some (vI x)], [vI 4, vR 17], LAY (u (u (u (u (u (u (u (u A 31 (A 31)) 32 (A 32)) 33 (A 33)) 34 (A 34)) 36 (A 36)) 37 (A 37)) 35 (wr (A 35) x 0)) 30 (wr (A 30) x 1)) (u (u F 7 (F 7)) 6 a33), 0, 0)) hc41 2 rfl trivial ?_
          refine R_cv hc41 rfl rfl (l_numb (A := (u (u (u (u (u (u (u (u A 31 (A 31)) 32 (A 32)) 33 (A 33)) 34 (A 34)) 36 (A 36)) 37 (A 37)) 35 (wr (A 35) x 0)) 30 (wr (A 30) x 1))) (F := (u (u F 7 (F 7)) 6 a33)) (LENS_u (LENS_u (LENS_u (LENS_u (LENS_u (LENS_u (LENS_u (LENS_u hL (by show (A 31).length = (A 31).length; omega)) (by show (A 32).length = (A 32).length; omega)) (by show (A 33).length = (A 33).length; omega)) (by show (A 34).length = (A 34).length; omega)) (by show (A 36).length = (A 36).length; omega)) (by show (A 37).length = (A 37).length; omega)) (by show (wr (A 35) x 0).length = (A 35).length; simp only [wr_len])) (by show (wr (A 30) x 1).length = (A 30).length; simp only [wr_len])) h5 ⟨by (show 0 ≤ a33); omega, by (show a33 ≤ F 5); omega⟩ (kk := 4) (by decide) rfl) (fun r G9 hp9 => ?_)
          obtain ⟨b34, a34, v34, rfl, rfl, hb34, hw34, p34, q34, w34⟩ := hp9
          have p34 : 0 ≤ a34 := p34
          have q34 : a34 ≤ F 5 := q34
          refine R_s (f' := (21, [some (vR 17), some (vR 29), some (vI x)], [vI b34], LAY (u (u (u (u (u (u (u (u A 31 (A 31)) 32 (A 32)) 33 (A 33)) 34 (A 34)) 36 (A 36)) 37 (A 37)) 35 (wr (A 35) x 0)) 30 (wr (A 30) x 1)) (u (u F 6 a34) 7 v34), 0, 0)) hc41 0 rfl trivial ?_
          refine R_if (t := 26) hc41 rfl rfl (fun (c13 : ¬ b34 = 0) => ?_) (fun (c13 : ¬ (¬ b34 = 0)) => ?_)
          · refine R_s (P := (0 ≤ x ∧ x < ((A 31).length : Int)) ∧ True) (f' := (39, [some (vR 17), some (vR 29), some (vI x)], [vI x, vR 29, vR 17], LAY (u (u (u (u (u (u (u (u A 32 (A 32)) 33 (A 33)) 34 (A 34)) 36 (A 36)) 37 (A 37)) 35 (wr (A 35) x 0)) 30 (wr (A 30) x 1)) 31 (wr (A 31) x v34)) (u (u F 6 a34) 7 v34), 0, 0)) hc41 9 rfl ⟨⟨by omega, by omega⟩, trivial⟩ ?_
            refine R_cv hc41 rfl rfl ?_ (fun r G h => h)
            refine R_s (P := True) (f' := (3, [some (vR 17), some (vR 29), some (vI x)], [vS 8, vR 17], LAY (u (u (u (u (u (u (u (u A 32 (A 32)) 33 (A 33)) 34 (A 34)) 36 (A 36)) 37 (A 37)) 35 (wr (A 35) x 0)) 30 (wr (A 30) x 1)) 31 (wr (A 31) x v34)) (u (u F 6 a34) 7 v34), 0, 0)) hc47 2 rfl trivial ?_
            refine R_cv hc47 rfl rfl (l_word8 (A := (u (u (u (u (u (u (u (u A 32 (A 32)) 33 (A 33)) 34 (A 34)) 36 (A 36)) 37 (A 37)) 35 (wr (A 35) x 0)) 30 (wr (A 30) x 1)) 31 (wr (A 31) x v34))) (F := (u (u F 6 a34) 7 v34)) (LENS_u (LENS_u (LENS_u (LENS_u (LENS_u (LENS_u (LENS_u (LENS_u hL (by show (A 32).length = (A 32).length; omega)) (by show (A 33).length = (A 33).length; omega)) (by show (A 34).length = (A 34).length; omega)) (by show (A 36).length = (A 36).length; omega)) (by show (A 37).length = (A 37).length; omega)) (by show (wr (A 35) x 0).length = (A 35).length; simp only [wr_len])) (by show (wr (A 30) x 1).length = (A 30).length; simp only [wr_len])) (by show (wr (A 31) x v34).length = (A 31).length; simp only [wr_len])) h5 ⟨by (show 0 ≤ a34); omega, by (show a34 ≤ F 5); omega⟩) (fun r G9 hp9 => ?_)
            obtain ⟨b35, a35, rfl, rfl, hb35, hw35, p35, q35⟩ := hp9
            have p35 : 0 ≤ a35 := p35
            have q35 : a35 ≤ F 5 := q35
            refine R_s (f' := (6, [some (vR 17), some (vR 29), some (vI x)], [vI b35], LAY (u (u (u (u (u (u (u (u A 32 (A 32)) 33 (A 33)) 34 (A 34)) 36 (A 36)) 37 (A 37)) 35 (wr (A 35) x 0)) 30 (wr (A 30) x 1)) 31 (wr (A 31) x v34)) (u (u F 7 v34) 6 a35), 0, 0)) hc47 0 rfl trivial ?_
            refine R_if (t := 17) hc47 rfl rfl (fun (c14 : b35 = 0) => ?_) (fun (c14 : ¬ (b35 = 0)) => ?_)
            · refine R_s (P := True) (f' := (18, [some (vR 17), some (vR 29), some (vI x)], [vI 0], LAY (u (u (u (u (u (u (u (u A 32 (A 32)) 33 (A 33)) 34 (A 34)) 36 (A 36)) 37 (A 37)) 35 (wr (A 35) x 0)) 30 (wr (A 30) x 1)) 31 (wr (A 31) x v34)) (u (u F 7 v34) 6 a35), 0, 0)) hc47 1 rfl trivial ?_
              refine R_retz hc47 rfl rfl (Or.inl rfl) ?_
              refine R_s (f' := (42, [some (vR 17), some (vR 29), some (vI x)], [vI 0], LAY (u (u (u (u (u (u (u (u A 32 (A 32)) 33 (A 33)) 34 (A 34)) 36 (A 36)) 37 (A 37)) 35 (wr (A 35) x 0)) 30 (wr (A 30) x 1)) 31 (wr (A 31) x v34)) (u (u F 7 v34) 6 a35), 0, 0)) hc41 0 rfl trivial ?_
              refine R_if (t := 54) hc41 rfl rfl (fun (_ : 0 = 0) => ?_) (fun (z : ¬ (0 = 0)) => absurd (by decide) z)
              refine R_s (P := True) (f' := (55, [some (vR 17), some (vR 29), some (vI x)], [vI 0], LAY (u (u (u (u (u (u (u (u A 32 (A 32)) 33 (A 33)) 34 (A 34)) 36 (A 36)) 37 (A 37)) 35 (wr (A 35) x 0)) 30 (wr (A 30) x 1)) 31 (wr (A 31) x v34)) (u (u F 7 v34) 6 a35), 0, 0)) hc41 1 rfl trivial ?_
              refine R_retz hc41 rfl rfl (Or.inl rfl) ?_
              refine R_s (f' := (79, [some (vR 17), some (vR 29), some (vI x), some (vI 0), some (vI (nx (A 18) (F 5) (F 6)))], [vI 0], LAY (u (u (u (u (u (u (u (u A 32 (A 32)) 33 (A 33)) 34 (A 34)) 36 (A 36)) 37 (A 37)) 35 (wr (A 35) x 0)) 30 (wr (A 30) x 1)) 31 (wr (A 31) x v34)) (u (u F 7 v34) 6 a35), 0, 0)) hc39 0 rfl trivial ?_
              refine R_if (t := 95) hc39 rfl rfl (fun (_ : 0 = 0) => ?_) (fun (z : ¬ (0 = 0)) => absurd (by decide) z)
              refine R_s (P := True) (f' := (96, [some (vR 17), some (vR 29), some (vI x), some (vI 0), some (vI (nx (A 18) (F 5) (F 6)))], [vI 0], LAY (u (u (u (u (u (u (u (u A 32 (A 32)) 33 (A 33)) 34 (A 34)) 36 (A 36)) 37 (A 37)) 35 (wr (A 35) x 0)) 30 (wr (A 30) x 1)) 31 (wr (A 31) x v34)) (u (u F 7 v34) 6 a35), 0, 0)) hc39 1 rfl trivial ?_
              refine R_retz hc39 rfl rfl (Or.inl rfl) ⟨0, wr (A 30) x 1, wr (A 31) x v34, A 32, A 33, A 34, wr (A 35) x 0, A 36, A 37, a35, v34, rfl, rfl, (by (try simp only [wr_len]); omega), (by (try simp only [wr_len]); omega), (by (try simp only [wr_len]); omega), (by (try simp only [wr_len]); omega), (by (try simp only [wr_len]); omega), (by (try simp only [wr_len]); omega), (by (try simp only [wr_len]); omega), (by (try simp only [wr_len]); omega), by decide, by omega, by omega, fun q hq => by rw [rd_wr_n (by omega) (by omega) (by omega)], fun q hq => by rw [rd_wr_n (by omega) (by omega) (by omega)], fun _ _ => rfl, fun _ _ => rfl, fun _ _ => rfl, fun q hq => by rw [rd_wr_n (by omega) (by omega) (by omega)], fun _ _ => rfl, fun _ _ => rfl, ?_⟩
              have ehw33 : b33 = 1 := by omega
              rw [ehw33] at hw33
              have hw33n : wD (A 18) (F 5) LINE (0, F 6) = (0, a33) := hw33
              have ehw34 : b34 = 1 := by omega
              rw [ehw34] at hw34
              have hw34n : dG (A 18) (F 5) 4 (0, a33) = ((0, a34), v34) := hw34
              have ehw35 : b35 = 0 := by omega
              rw [ehw35] at hw35
              have hw35n : wD (A 18) (F 5) PP (0, a34) = (1, a35) := hw35
              have hk : eK (A 18) (F 5) i (0, F 6) = 1 := by
                unfold eK
                (try dsimp only)
                rw [if_neg (fun z => by omega)]
                rw [if_pos ⟨by omega, by omega⟩]
              have eP : pN (A 18) (F 5) LINE (0, F 6) = ((0, a34), v34) := by unfold pN; rw [hw33n, hw34n]
              have eR : pR (A 18) (F 5) LINE (0, F 6) = ((1, a35), 0) := by
                unfold pR
                rw [eP]
                (try dsimp only)
                rw [hw35n]
                rw [dG_f]
              have eL : pL (A 18) (F 5) (0, F 6) = (1, a35) := by
                unfold pL
                rw [eR]
                (try dsimp only)
                rw [wD_f]
              have eT : tB (A 18) (F 5) i (0, F 6) = (1, a35) := by
                rw [(eN_1 hk).2, eL]
                split
                · exact wD_f _
                · exact wD_f _
              have eS : eN (A 18) (F 5) i (0, F 6) = (1, a35) := by rw [(eN_1 hk).1, eT, tS_f]
              exact ⟨eS, fun z => absurd z (by decide)⟩
            · refine R_s (P := True) (f' := (11, [some (vR 17), some (vR 29), some (vI x)], [vI 2, vR 17], LAY (u (u (u (u (u (u (u (u A 32 (A 32)) 33 (A 33)) 34 (A 34)) 36 (A 36)) 37 (A 37)) 35 (wr (A 35) x 0)) 30 (wr (A 30) x 1)) 31 (wr (A 31) x v34)) (u (u F 7 v34) 6 a35), 0, 0)) hc47 2 rfl trivial ?_
              refine R_cv hc47 rfl rfl (l_numb (A := (u (u (u (u (u (u (u (u A 32 (A 32)) 33 (A 33)) 34 (A 34)) 36 (A 36)) 37 (A 37)) 35 (wr (A 35) x 0)) 30 (wr (A 30) x 1)) 31 (wr (A 31) x v34))) (F := (u (u F 7 v34) 6 a35)) (LENS_u (LENS_u (LENS_u (LENS_u (LENS_u (LENS_u (LENS_u (LENS_u hL (by show (A 32).length = (A 32).length; omega)) (by show (A 33).length = (A 33).length; omega)) (by show (A 34).length = (A 34).length; omega)) (by show (A 36).length = (A 36).length; omega)) (by show (A 37).length = (A 37).length; omega)) (by show (wr (A 35) x 0).length = (A 35).length; simp only [wr_len])) (by show (wr (A 30) x 1).length = (A 30).length; simp only [wr_len])) (by show (wr (A 31) x v34).length = (A 31).length; simp only [wr_len])) h5 ⟨by (show 0 ≤ a35); omega, by (show a35 ≤ F 5); omega⟩ (kk := 2) (by decide) rfl) (fun r G9 hp9 => ?_)
              obtain ⟨b36, a36, v36, rfl, rfl, hb36, hw36, p36, q36, w36⟩ := hp9
              have p36 : 0 ≤ a36 := p36
              have q36 : a36 ≤ F 5 := q36
              refine R_s (f' := (14, [some (vR 17), some (vR 29), some (vI x)], [vI b36], LAY (u (u (u (u (u (u (u (u A 32 (A 32)) 33 (A 33)) 34 (A 34)) 36 (A 36)) 37 (A 37)) 35 (wr (A 35) x 0)) 30 (wr (A 30) x 1)) 31 (wr (A 31) x v34)) (u (u F 6 a36) 7 v36), 0, 0)) hc47 0 rfl trivial ?_
              refine R_if (t := 19) hc47 rfl rfl (fun (c15 : ¬ b36 = 0) => ?_) (fun (c15 : ¬ (¬ b36 = 0)) => ?_)
              · refine R_s (P := (0 ≤ x ∧ x < ((A 32).length : Int)) ∧ True) (f' := (30, [some (vR 17), some (vR 29), some (vI x)], [vI 1], LAY (u (u (u (u (u (u (u (u A 33 (A 33)) 34 (A 34)) 36 (A 36)) 37 (A 37)) 35 (wr (A 35) x 0)) 30 (wr (A 30) x 1)) 31 (wr (A 31) x v34)) 32 (wr (A 32) x v36)) (u (u F 6 a36) 7 v36), 0, 0)) hc47 7 rfl ⟨⟨by omega, by omega⟩, trivial⟩ ?_
                refine R_retz hc47 rfl rfl (Or.inr rfl) ?_
                refine R_s (f' := (42, [some (vR 17), some (vR 29), some (vI x)], [vI 1], LAY (u (u (u (u (u (u (u (u A 33 (A 33)) 34 (A 34)) 36 (A 36)) 37 (A 37)) 35 (wr (A 35) x 0)) 30 (wr (A 30) x 1)) 31 (wr (A 31) x v34)) 32 (wr (A 32) x v36)) (u (u F 6 a36) 7 v36), 0, 0)) hc41 0 rfl trivial ?_
                refine R_if (t := 54) hc41 rfl rfl (fun (z : 1 = 0) => absurd z (by decide)) (fun (_ : ¬ (1 = 0)) => ?_)
                refine R_s (P := True) (f' := (48, [some (vR 17), some (vR 29), some (vI x)], [vS 1, vR 17], LAY (u (u (u (u (u (u (u (u A 33 (A 33)) 34 (A 34)) 36 (A 36)) 37 (A 37)) 35 (wr (A 35) x 0)) 30 (wr (A 30) x 1)) 31 (wr (A 31) x v34)) 32 (wr (A 32) x v36)) (u (u F 6 a36) 7 v36), 0, 0)) hc41 2 rfl trivial ?_
                refine R_cv hc41 rfl rfl (l_word1 (A := (u (u (u (u (u (u (u (u A 33 (A 33)) 34 (A 34)) 36 (A 36)) 37 (A 37)) 35 (wr (A 35) x 0)) 30 (wr (A 30) x 1)) 31 (wr (A 31) x v34)) 32 (wr (A 32) x v36))) (F := (u (u F 6 a36) 7 v36)) (LENS_u (LENS_u (LENS_u (LENS_u (LENS_u (LENS_u (LENS_u (LENS_u hL (by show (A 33).length = (A 33).length; omega)) (by show (A 34).length = (A 34).length; omega)) (by show (A 36).length = (A 36).length; omega)) (by show (A 37).length = (A 37).length; omega)) (by show (wr (A 35) x 0).length = (A 35).length; simp only [wr_len])) (by show (wr (A 30) x 1).length = (A 30).length; simp only [wr_len])) (by show (wr (A 31) x v34).length = (A 31).length; simp only [wr_len])) (by show (wr (A 32) x v36).length = (A 32).length; simp only [wr_len])) h5 ⟨by (show 0 ≤ a36); omega, by (show a36 ≤ F 5); omega⟩) (fun r G9 hp9 => ?_)
                obtain ⟨b37, a37, rfl, rfl, hb37, hw37, p37, q37⟩ := hp9
                have p37 : 0 ≤ a37 := p37
                have q37 : a37 ≤ F 5 := q37
                refine R_s (f' := (51, [some (vR 17), some (vR 29), some (vI x)], [vI b37], LAY (u (u (u (u (u (u (u (u A 33 (A 33)) 34 (A 34)) 36 (A 36)) 37 (A 37)) 35 (wr (A 35) x 0)) 30 (wr (A 30) x 1)) 31 (wr (A 31) x v34)) 32 (wr (A 32) x v36)) (u (u F 7 v36) 6 a37), 0, 0)) hc41 0 rfl trivial ?_
                refine R_if (t := 56) hc41 rfl rfl (fun (c17 : ¬ b37 = 0) => ?_) (fun (c17 : ¬ (¬ b37 = 0)) => ?_)
                · refine R_s (P := True) (f' := (62, [some (vR 17), some (vR 29), some (vI x)], [vR 17, vI x, vR 34], LAY (u (u (u (u (u (u (u (u A 33 (A 33)) 34 (A 34)) 36 (A 36)) 37 (A 37)) 35 (wr (A 35) x 0)) 30 (wr (A 30) x 1)) 31 (wr (A 31) x v34)) 32 (wr (A 32) x v36)) (u (u F 7 v36) 6 a37), 0, 0)) hc41 4 rfl trivial ?_
                  refine R_cv hc41 rfl rfl (l_next (A := (u (u (u (u (u (u (u (u A 33 (A 33)) 34 (A 34)) 36 (A 36)) 37 (A 37)) 35 (wr (A 35) x 0)) 30 (wr (A 30) x 1)) 31 (wr (A 31) x v34)) 32 (wr (A 32) x v36))) (F := (u (u F 7 v36) 6 a37)) (LENS_u (LENS_u (LENS_u (LENS_u (LENS_u (LENS_u (LENS_u (LENS_u hL (by show (A 33).length = (A 33).length; omega)) (by show (A 34).length = (A 34).length; omega)) (by show (A 36).length = (A 36).length; omega)) (by show (A 37).length = (A 37).length; omega)) (by show (wr (A 35) x 0).length = (A 35).length; simp only [wr_len])) (by show (wr (A 30) x 1).length = (A 30).length; simp only [wr_len])) (by show (wr (A 31) x v34).length = (A 31).length; simp only [wr_len])) (by show (wr (A 32) x v36).length = (A 32).length; simp only [wr_len])) h5 ⟨by (show 0 ≤ a37); omega, by (show a37 ≤ F 5); omega⟩) (fun r G9 hp9 => ?_)
                  obtain ⟨e1, rfl⟩ := hp9
                  have e2 : r = some (vI (nx (A 18) (F 5) (a37))) := e1
                  clear e1
                  subst e2
                  refine R_s (f' := (65, [some (vR 17), some (vR 29), some (vI x)], [vI (nx (A 18) (F 5) (a37)), vI x, vR 34], LAY (u (u (u (u (u (u (u (u A 33 (A 33)) 34 (A 34)) 36 (A 36)) 37 (A 37)) 35 (wr (A 35) x 0)) 30 (wr (A 30) x 1)) 31 (wr (A 31) x v34)) 32 (wr (A 32) x v36)) (u (u F 7 v36) 6 a37), 0, 0)) hc41 0 rfl trivial ?_
                  refine R_s (P := True) (f' := (67, [some (vR 17), some (vR 29), some (vI x)], [vI 104, vI (nx (A 18) (F 5) (a37)), vI x, vR 34], LAY (u (u (u (u (u (u (u (u A 33 (A 33)) 34 (A 34)) 36 (A 36)) 37 (A 37)) 35 (wr (A 35) x 0)) 30 (wr (A 30) x 1)) 31 (wr (A 31) x v34)) 32 (wr (A 32) x v36)) (u (u F 7 v36) 6 a37), 0, 0)) hc41 1 rfl trivial ?_
                  refine R_ic (t := 74) hc41 rfl rfl (fun (c18 : ¬ nx (A 18) (F 5) (a37) = 104) => ?_) (fun (c18 : ¬ (¬ nx (A 18) (F 5) (a37) = 104)) => ?_)
                  · refine R_s (P := ((0 ≤ x ∧ x < ((A 34).length : Int)) ∧ (0 = 0 ∨ 0 = 1)) ∧ (0 ≤ x ∧ x < ((wr (A 34) x 0).length : Int)) ∧ True) (f' := (83, [some (vR 17), some (vR 29), some (vI x)], [vI (rd (wr (A 34) x 0) x), vR 17], LAY (u (u (u (u (u (u (u (u A 33 (A 33)) 36 (A 36)) 37 (A 37)) 35 (wr (A 35) x 0)) 30 (wr (A 30) x 1)) 31 (wr (A 31) x v34)) 32 (wr (A 32) x v36)) 34 (wr (A 34) x 0)) (u (u F 7 v36) 6 a37), 0, 0)) hc41 7 rfl ⟨⟨⟨by omega, by omega⟩, by omega⟩, ⟨by omega, by simp only [wr_len]; omega⟩, trivial⟩ ?_
                    refine R_if (t := 91) hc41 rfl rfl (fun (_ : rd (wr (A 34) x 0) x = 0) => ?_) (fun (z : ¬ (rd (wr (A 34) x 0) x = 0)) => absurd (show rd (wr (A 34) x 0) x = 0 by omega) z)
                    refine R_s (P := True) (f' := (93, [some (vR 17), some (vR 29), some (vI x)], [vS 10, vR 17], LAY (u (u (u (u (u (u (u (u A 33 (A 33)) 36 (A 36)) 37 (A 37)) 35 (wr (A 35) x 0)) 30 (wr (A 30) x 1)) 31 (wr (A 31) x v34)) 32 (wr (A 32) x v36)) 34 (wr (A 34) x 0)) (u (u F 7 v36) 6 a37), 0, 0)) hc41 1 rfl trivial ?_
                    refine R_cv hc41 rfl rfl (l_word10 (A := (u (u (u (u (u (u (u (u A 33 (A 33)) 36 (A 36)) 37 (A 37)) 35 (wr (A 35) x 0)) 30 (wr (A 30) x 1)) 31 (wr (A 31) x v34)) 32 (wr (A 32) x v36)) 34 (wr (A 34) x 0))) (F := (u (u F 7 v36) 6 a37)) (LENS_u (LENS_u (LENS_u (LENS_u (LENS_u (LENS_u (LENS_u (LENS_u hL (by show (A 33).length = (A 33).length; omega)) (by show (A 36).length = (A 36).length; omega)) (by show (A 37).length = (A 37).length; omega)) (by show (wr (A 35) x 0).length = (A 35).length; simp only [wr_len])) (by show (wr (A 30) x 1).length = (A 30).length; simp only [wr_len])) (by show (wr (A 31) x v34).length = (A 31).length; simp only [wr_len])) (by show (wr (A 32) x v36).length = (A 32).length; simp only [wr_len])) (by show (wr (A 34) x 0).length = (A 34).length; simp only [wr_len])) h5 ⟨by (show 0 ≤ a37); omega, by (show a37 ≤ F 5); omega⟩) (fun r G9 hp9 => ?_)
                    obtain ⟨b38, a38, rfl, rfl, hb38, hw38, p38, q38⟩ := hp9
                    have p38 : 0 ≤ a38 := p38
                    have q38 : a38 ≤ F 5 := q38
                    refine R_s (f' := (96, [some (vR 17), some (vR 29), some (vI x)], [vI b38], LAY (u (u (u (u (u (u (u (u A 33 (A 33)) 36 (A 36)) 37 (A 37)) 35 (wr (A 35) x 0)) 30 (wr (A 30) x 1)) 31 (wr (A 31) x v34)) 32 (wr (A 32) x v36)) 34 (wr (A 34) x 0)) (u (u F 7 v36) 6 a38), 0, 0)) hc41 0 rfl trivial ?_
                    refine R_retz hc41 rfl rfl (by omega) ?_
                    refine R_s (f' := (79, [some (vR 17), some (vR 29), some (vI x), some (vI 0), some (vI (nx (A 18) (F 5) (F 6)))], [vI b38], LAY (u (u (u (u (u (u (u (u A 33 (A 33)) 36 (A 36)) 37 (A 37)) 35 (wr (A 35) x 0)) 30 (wr (A 30) x 1)) 31 (wr (A 31) x v34)) 32 (wr (A 32) x v36)) 34 (wr (A 34) x 0)) (u (u F 7 v36) 6 a38), 0, 0)) hc39 0 rfl trivial ?_
                    refine R_if (t := 95) hc39 rfl rfl (fun (c20 : b38 = 0) => ?_) (fun (c20 : ¬ (b38 = 0)) => ?_)
                    · refine R_s (P := True) (f' := (96, [some (vR 17), some (vR 29), some (vI x), some (vI 0), some (vI (nx (A 18) (F 5) (F 6)))], [vI 0], LAY (u (u (u (u (u (u (u (u A 33 (A 33)) 36 (A 36)) 37 (A 37)) 35 (wr (A 35) x 0)) 30 (wr (A 30) x 1)) 31 (wr (A 31) x v34)) 32 (wr (A 32) x v36)) 34 (wr (A 34) x 0)) (u (u F 7 v36) 6 a38), 0, 0)) hc39 1 rfl trivial ?_
                      refine R_retz hc39 rfl rfl (Or.inl rfl) ⟨0, wr (A 30) x 1, wr (A 31) x v34, wr (A 32) x v36, A 33, wr (A 34) x 0, wr (A 35) x 0, A 36, A 37, a38, v36, rfl, rfl, (by (try simp only [wr_len]); omega), (by (try simp only [wr_len]); omega), (by (try simp only [wr_len]); omega), (by (try simp only [wr_len]); omega), (by (try simp only [wr_len]); omega), (by (try simp only [wr_len]); omega), (by (try simp only [wr_len]); omega), (by (try simp only [wr_len]); omega), by decide, by omega, by omega, fun q hq => by rw [rd_wr_n (by omega) (by omega) (by omega)], fun q hq => by rw [rd_wr_n (by omega) (by omega) (by omega)], fun q hq => by rw [rd_wr_n (by omega) (by omega) (by omega)], fun _ _ => rfl, fun q hq => by rw [rd_wr_n (by omega) (by omega) (by omega)], fun q hq => by rw [rd_wr_n (by omega) (by omega) (by omega)], fun _ _ => rfl, fun _ _ => rfl, ?_⟩
                      have ehw33 : b33 = 1 := by omega
                      rw [ehw33] at hw33
                      have hw33n : wD (A 18) (F 5) LINE (0, F 6) = (0, a33) := hw33
                      have ehw34 : b34 = 1 := by omega
                      rw [ehw34] at hw34
                      have hw34n : dG (A 18) (F 5) 4 (0, a33) = ((0, a34), v34) := hw34
                      have ehw35 : b35 = 1 := by omega
                      rw [ehw35] at hw35
                      have hw35n : wD (A 18) (F 5) PP (0, a34) = (0, a35) := hw35
                      have ehw36 : b36 = 1 := by omega
                      rw [ehw36] at hw36
                      have hw36n : dG (A 18) (F 5) 2 (0, a35) = ((0, a36), v36) := hw36
                      have ehw37 : b37 = 1 := by omega
                      rw [ehw37] at hw37
                      have hw37n : wD (A 18) (F 5) SPC (0, a36) = (0, a37) := hw37
                      have ehw38 : b38 = 0 := by omega
                      rw [ehw38] at hw38
                      have hw38n : wD (A 18) (F 5) STEM (0, a37) = (1, a38) := hw38
                      have hk : eK (A 18) (F 5) i (0, F 6) = 1 := by
                        unfold eK
                        (try dsimp only)
                        rw [if_neg (fun z => by omega)]
                        rw [if_pos ⟨by omega, by omega⟩]
                      have eP : pN (A 18) (F 5) LINE (0, F 6) = ((0, a34), v34) := by unfold pN; rw [hw33n, hw34n]
                      have eR : pR (A 18) (F 5) LINE (0, F 6) = ((0, a36), v36) := by
                        unfold pR
                        rw [eP]
                        (try dsimp only)
                        rw [hw35n]
                        rw [hw36n]
                      have eL : pL (A 18) (F 5) (0, F 6) = (0, a37) := by
                        unfold pL
                        rw [eR]
                        (try dsimp only)
                        rw [hw37n]
                      have eT : tB (A 18) (F 5) i (0, F 6) = (1, a38) := by
                        rw [(eN_1 hk).2, eL]
                        (try dsimp only)
                        by_cases z : nx (A 18) (F 5) (a37) = 115
                        · rw [if_pos z, hw38n]
                        · have z1 : wD (A 18) (F 5) STEM (0, a37) = (1, a37) := wD_no (c := 115) (cs := [116, 101, 109]) z
                          have z2 : wD (A 18) (F 5) HEADS (0, a37) = (1, a37) := wD_no (c := 104) (cs := [101, 97, 100, 115]) (by omega)
                          rw [if_neg z, z2, ← z1, hw38n]
                      have eS : eN (A 18) (F 5) i (0, F 6) = (1, a38) := by rw [(eN_1 hk).1, eT, tS_f]
                      exact ⟨eS, fun z => absurd z (by decide)⟩
                    · refine R_s (P := True) (f' := (85, [some (vR 17), some (vR 29), some (vI x), some (vI 0), some (vI (nx (A 18) (F 5) (F 6)))], [vI x, vR 29, vR 17], LAY (u (u (u (u (u (u (u (u A 33 (A 33)) 36 (A 36)) 37 (A 37)) 35 (wr (A 35) x 0)) 30 (wr (A 30) x 1)) 31 (wr (A 31) x v34)) 32 (wr (A 32) x v36)) 34 (wr (A 34) x 0)) (u (u F 7 v36) 6 a38), 0, 0)) hc39 3 rfl trivial ?_
                      refine R_cv hc39 rfl rfl (l_rtest1 (A := (u (u (u (u (u (u (u (u A 33 (A 33)) 36 (A 36)) 37 (A 37)) 35 (wr (A 35) x 0)) 30 (wr (A 30) x 1)) 31 (wr (A 31) x v34)) 32 (wr (A 32) x v36)) 34 (wr (A 34) x 0))) (F := (u (u F 7 v36) 6 a38)) (LENS_u (LENS_u (LENS_u (LENS_u (LENS_u (LENS_u (LENS_u (LENS_u hL (by show (A 33).length = (A 33).length; omega)) (by show (A 36).length = (A 36).length; omega)) (by show (A 37).length = (A 37).length; omega)) (by show (wr (A 35) x 0).length = (A 35).length; simp only [wr_len])) (by show (wr (A 30) x 1).length = (A 30).length; simp only [wr_len])) (by show (wr (A 31) x v34).length = (A 31).length; simp only [wr_len])) (by show (wr (A 32) x v36).length = (A 32).length; simp only [wr_len])) (by show (wr (A 34) x 0).length = (A 34).length; simp only [wr_len])) h5 ⟨by (show 0 ≤ a38); omega, by (show a38 ≤ F 5); omega⟩ ex hi (by show rd (wr (A 35) x 0) i = 0; rw [← ex]; exact rd_wr_s (by omega) (by omega))) (fun r G9 hp9 => ?_)
                      obtain ⟨b39, s5_39, s6_39, s7_39, a39, v39, rfl, rfl, l39_5, l39_6, l39_7, hb39, p39, q39, kp39_5, kp39_6, kp39_7, hw39, hv39⟩ := hp9
                      have q39 : a39 ≤ F 5 := q39
                      have kp39_5 : ∀ q : Nat, q ≠ i → rd s5_39 q = rd (wr (A 35) x 0) q := kp39_5
                      have kp39_6 : ∀ q : Nat, q ≠ i → rd s6_39 q = rd (A 36) q := kp39_6
                      have kp39_7 : ∀ q : Nat, q ≠ i → rd s7_39 q = rd (A 37) q := kp39_7
                      refine R_s (f' := (88, [some (vR 17), some (vR 29), some (vI x), some (vI 0), some (vI (nx (A 18) (F 5) (F 6)))], [vI b39], LAY (u (u (u (u (u (u (u (u A 33 (A 33)) 30 (wr (A 30) x 1)) 31 (wr (A 31) x v34)) 32 (wr (A 32) x v36)) 34 (wr (A 34) x 0)) 35 s5_39) 36 s6_39) 37 s7_39) (u (u F 6 a39) 7 v39), 0, 0)) hc39 0 rfl trivial ?_
                      refine R_if (t := 95) hc39 rfl rfl (fun (c21 : b39 = 0) => ?_) (fun (c21 : ¬ (b39 = 0)) => ?_)
                      · refine R_s (P := True) (f' := (96, [some (vR 17), some (vR 29), some (vI x), some (vI 0), some (vI (nx (A 18) (F 5) (F 6)))], [vI 0], LAY (u (u (u (u (u (u (u (u A 33 (A 33)) 30 (wr (A 30) x 1)) 31 (wr (A 31) x v34)) 32 (wr (A 32) x v36)) 34 (wr (A 34) x 0)) 35 s5_39) 36 s6_39) 37 s7_39) (u (u F 6 a39) 7 v39), 0, 0)) hc39 1 rfl trivial ?_
                        refine R_retz hc39 rfl rfl (Or.inl rfl) ⟨0, wr (A 30) x 1, wr (A 31) x v34, wr (A 32) x v36, A 33, wr (A 34) x 0, s5_39, s6_39, s7_39, a39, v39, rfl, rfl, (by (try simp only [wr_len]); omega), (by (try simp only [wr_len]); omega), (by (try simp only [wr_len]); omega), (by (try simp only [wr_len]); omega), (by (try simp only [wr_len]); omega), (by (try simp only [wr_len]); omega), (by (try simp only [wr_len]); omega), (by (try simp only [wr_len]); omega), by decide, by omega, by omega, fun q hq => by rw [rd_wr_n (by omega) (by omega) (by omega)], fun q hq => by rw [rd_wr_n (by omega) (by omega) (by omega)], fun q hq => by rw [rd_wr_n (by omega) (by omega) (by omega)], fun _ _ => rfl, fun q hq => by rw [rd_wr_n (by omega) (by omega) (by omega)], fun q hq => by rw [kp39_5 q hq, rd_wr_n (by omega) (by omega) (by omega)], fun q hq => by rw [kp39_6 q hq], fun q hq => by rw [kp39_7 q hq], ?_⟩
                        have ehw33 : b33 = 1 := by omega
                        rw [ehw33] at hw33
                        have hw33n : wD (A 18) (F 5) LINE (0, F 6) = (0, a33) := hw33
                        have ehw34 : b34 = 1 := by omega
                        rw [ehw34] at hw34
                        have hw34n : dG (A 18) (F 5) 4 (0, a33) = ((0, a34), v34) := hw34
                        have ehw35 : b35 = 1 := by omega
                        rw [ehw35] at hw35
                        have hw35n : wD (A 18) (F 5) PP (0, a34) = (0, a35) := hw35
                        have ehw36 : b36 = 1 := by omega
                        rw [ehw36] at hw36
                        have hw36n : dG (A 18) (F 5) 2 (0, a35) = ((0, a36), v36) := hw36
                        have ehw37 : b37 = 1 := by omega
                        rw [ehw37] at hw37
                        have hw37n : wD (A 18) (F 5) SPC (0, a36) = (0, a37) := hw37
                        have ehw38 : b38 = 1 := by omega
                        rw [ehw38] at hw38
                        have hw38n : wD (A 18) (F 5) STEM (0, a37) = (0, a38) := hw38
                        have ehw39 : b39 = 0 := by omega
                        rw [ehw39] at hw39
                        have hw39n : tS (A 18) (F 5) (0, a38) = (1, a39) := hw39
                        have hk : eK (A 18) (F 5) i (0, F 6) = 1 := by
                          unfold eK
                          (try dsimp only)
                          rw [if_neg (fun z => by omega)]
                          rw [if_pos ⟨by omega, by omega⟩]
                        have eP : pN (A 18) (F 5) LINE (0, F 6) = ((0, a34), v34) := by unfold pN; rw [hw33n, hw34n]
                        have eR : pR (A 18) (F 5) LINE (0, F 6) = ((0, a36), v36) := by
                          unfold pR
                          rw [eP]
                          (try dsimp only)
                          rw [hw35n]
                          rw [hw36n]
                        have eL : pL (A 18) (F 5) (0, F 6) = (0, a37) := by
                          unfold pL
                          rw [eR]
                          (try dsimp only)
                          rw [hw37n]
                        have hst : nx (A 18) (F 5) (a37) = 115 := wD_hd (cs := [116, 101, 109]) hw38n
                        have eT : tB (A 18) (F 5) i (0, F 6) = (0, a38) := by
                          rw [(eN_1 hk).2, eL]
                          (try dsimp only)
                          rw [if_pos hst, hw38n]
                        have eS : eN (A 18) (F 5) i (0, F 6) = (1, a39) := by rw [(eN_1 hk).1, eT]; exact hw39n
                        exact ⟨eS, fun z => absurd z (by decide)⟩
                      · refine R_s (P := True) (f' := (96, [some (vR 17), some (vR 29), some (vI x), some (vI 0), some (vI (nx (A 18) (F 5) (F 6)))], [vI 1], LAY (u (u (u (u (u (u (u (u A 33 (A 33)) 30 (wr (A 30) x 1)) 31 (wr (A 31) x v34)) 32 (wr (A 32) x v36)) 34 (wr (A 34) x 0)) 35 s5_39) 36 s6_39) 37 s7_39) (u (u F 6 a39) 7 v39), 0, 0)) hc39 2 rfl trivial ?_
                        refine R_retz hc39 rfl rfl (Or.inr rfl) ⟨1, wr (A 30) x 1, wr (A 31) x v34, wr (A 32) x v36, A 33, wr (A 34) x 0, s5_39, s6_39, s7_39, a39, v39, rfl, rfl, (by (try simp only [wr_len]); omega), (by (try simp only [wr_len]); omega), (by (try simp only [wr_len]); omega), (by (try simp only [wr_len]); omega), (by (try simp only [wr_len]); omega), (by (try simp only [wr_len]); omega), (by (try simp only [wr_len]); omega), (by (try simp only [wr_len]); omega), by decide, by omega, by omega, fun q hq => by rw [rd_wr_n (by omega) (by omega) (by omega)], fun q hq => by rw [rd_wr_n (by omega) (by omega) (by omega)], fun q hq => by rw [rd_wr_n (by omega) (by omega) (by omega)], fun _ _ => rfl, fun q hq => by rw [rd_wr_n (by omega) (by omega) (by omega)], fun q hq => by rw [kp39_5 q hq, rd_wr_n (by omega) (by omega) (by omega)], fun q hq => by rw [kp39_6 q hq], fun q hq => by rw [kp39_7 q hq], ?_⟩
                        have ehw33 : b33 = 1 := by omega
                        rw [ehw33] at hw33
                        have hw33n : wD (A 18) (F 5) LINE (0, F 6) = (0, a33) := hw33
                        have ehw34 : b34 = 1 := by omega
                        rw [ehw34] at hw34
                        have hw34n : dG (A 18) (F 5) 4 (0, a33) = ((0, a34), v34) := hw34
                        have ehw35 : b35 = 1 := by omega
                        rw [ehw35] at hw35
                        have hw35n : wD (A 18) (F 5) PP (0, a34) = (0, a35) := hw35
                        have ehw36 : b36 = 1 := by omega
                        rw [ehw36] at hw36
                        have hw36n : dG (A 18) (F 5) 2 (0, a35) = ((0, a36), v36) := hw36
                        have ehw37 : b37 = 1 := by omega
                        rw [ehw37] at hw37
                        have hw37n : wD (A 18) (F 5) SPC (0, a36) = (0, a37) := hw37
                        have ehw38 : b38 = 1 := by omega
                        rw [ehw38] at hw38
                        have hw38n : wD (A 18) (F 5) STEM (0, a37) = (0, a38) := hw38
                        have ehw39 : b39 = 1 := by omega
                        rw [ehw39] at hw39
                        have hw39n : tS (A 18) (F 5) (0, a38) = (0, a39) := hw39
                        have hk : eK (A 18) (F 5) i (0, F 6) = 1 := by
                          unfold eK
                          (try dsimp only)
                          rw [if_neg (fun z => by omega)]
                          rw [if_pos ⟨by omega, by omega⟩]
                        have eP : pN (A 18) (F 5) LINE (0, F 6) = ((0, a34), v34) := by unfold pN; rw [hw33n, hw34n]
                        have eR : pR (A 18) (F 5) LINE (0, F 6) = ((0, a36), v36) := by
                          unfold pR
                          rw [eP]
                          (try dsimp only)
                          rw [hw35n]
                          rw [hw36n]
                        have eL : pL (A 18) (F 5) (0, F 6) = (0, a37) := by
                          unfold pL
                          rw [eR]
                          (try dsimp only)
                          rw [hw37n]
                        have hst : nx (A 18) (F 5) (a37) = 115 := wD_hd (cs := [116, 101, 109]) hw38n
                        have eT : tB (A 18) (F 5) i (0, F 6) = (0, a38) := by
                          rw [(eN_1 hk).2, eL]
                          (try dsimp only)
                          rw [if_pos hst, hw38n]
                        have eS : eN (A 18) (F 5) i (0, F 6) = (0, a39) := by rw [(eN_1 hk).1, eT]; exact hw39n
                        have r0 : rd (wr (A 30) x 1) i = 1 := by rw [← ex]; exact rd_wr_s (by omega) (by (try simp only [wr_len]); omega)
                        have r1 : rd (wr (A 31) x v34) i = v34 := by rw [← ex]; exact rd_wr_s (by omega) (by (try simp only [wr_len]); omega)
                        have r2 : rd (wr (A 32) x v36) i = v36 := by rw [← ex]; exact rd_wr_s (by omega) (by (try simp only [wr_len]); omega)
                        have r4 : rd (wr (A 34) x 0) i = 0 := by rw [← ex]; exact rd_wr_s (by omega) (by (try simp only [wr_len]); omega)
                        exact ⟨eS, fun _ => ⟨by rw [r0, hk], fun z => absurd z (by rw [r0]; decide), fun _ => ⟨by rw [r1, eP], by rw [r2, eR], by rw [r4, eL]; (try dsimp only); rw [if_pos hst]⟩, fun z => absurd z (by rw [r0]; decide), fun z => absurd z (by rw [r0]; decide), fun _ => by
                          rw [eT]
                          have z := hv39 (by omega)
                          exact ⟨z.1, z.2.imp (fun w => by rw [z.1, w]; rfl) id⟩⟩⟩
                  · refine R_s (P := ((0 ≤ x ∧ x < ((A 34).length : Int)) ∧ (1 = 0 ∨ 1 = 1)) ∧ (0 ≤ x ∧ x < ((wr (A 34) x 1).length : Int)) ∧ True) (f' := (83, [some (vR 17), some (vR 29), some (vI x)], [vI (rd (wr (A 34) x 1) x), vR 17], LAY (u (u (u (u (u (u (u (u A 33 (A 33)) 36 (A 36)) 37 (A 37)) 35 (wr (A 35) x 0)) 30 (wr (A 30) x 1)) 31 (wr (A 31) x v34)) 32 (wr (A 32) x v36)) 34 (wr (A 34) x 1)) (u (u F 7 v36) 6 a37), 0, 0)) hc41 8 rfl ⟨⟨⟨by omega, by omega⟩, by omega⟩, ⟨by omega, by simp only [wr_len]; omega⟩, trivial⟩ ?_
                    refine R_if (t := 91) hc41 rfl rfl (fun (z : rd (wr (A 34) x 1) x = 0) => absurd z (by omega)) (fun (_ : ¬ (rd (wr (A 34) x 1) x = 0)) => ?_)
                    refine R_s (P := True) (f' := (93, [some (vR 17), some (vR 29), some (vI x)], [vS 9, vR 17], LAY (u (u (u (u (u (u (u (u A 33 (A 33)) 36 (A 36)) 37 (A 37)) 35 (wr (A 35) x 0)) 30 (wr (A 30) x 1)) 31 (wr (A 31) x v34)) 32 (wr (A 32) x v36)) 34 (wr (A 34) x 1)) (u (u F 7 v36) 6 a37), 0, 0)) hc41 2 rfl trivial ?_
                    refine R_cv hc41 rfl rfl (l_word9 (A := (u (u (u (u (u (u (u (u A 33 (A 33)) 36 (A 36)) 37 (A 37)) 35 (wr (A 35) x 0)) 30 (wr (A 30) x 1)) 31 (wr (A 31) x v34)) 32 (wr (A 32) x v36)) 34 (wr (A 34) x 1))) (F := (u (u F 7 v36) 6 a37)) (LENS_u (LENS_u (LENS_u (LENS_u (LENS_u (LENS_u (LENS_u (LENS_u hL (by show (A 33).length = (A 33).length; omega)) (by show (A 36).length = (A 36).length; omega)) (by show (A 37).length = (A 37).length; omega)) (by show (wr (A 35) x 0).length = (A 35).length; simp only [wr_len])) (by show (wr (A 30) x 1).length = (A 30).length; simp only [wr_len])) (by show (wr (A 31) x v34).length = (A 31).length; simp only [wr_len])) (by show (wr (A 32) x v36).length = (A 32).length; simp only [wr_len])) (by show (wr (A 34) x 1).length = (A 34).length; simp only [wr_len])) h5 ⟨by (show 0 ≤ a37); omega, by (show a37 ≤ F 5); omega⟩) (fun r G9 hp9 => ?_)
                    obtain ⟨b40, a40, rfl, rfl, hb40, hw40, p40, q40⟩ := hp9
                    have p40 : 0 ≤ a40 := p40
                    have q40 : a40 ≤ F 5 := q40
                    refine R_s (f' := (96, [some (vR 17), some (vR 29), some (vI x)], [vI b40], LAY (u (u (u (u (u (u (u (u A 33 (A 33)) 36 (A 36)) 37 (A 37)) 35 (wr (A 35) x 0)) 30 (wr (A 30) x 1)) 31 (wr (A 31) x v34)) 32 (wr (A 32) x v36)) 34 (wr (A 34) x 1)) (u (u F 7 v36) 6 a40), 0, 0)) hc41 0 rfl trivial ?_
                    refine R_retz hc41 rfl rfl (by omega) ?_
                    refine R_s (f' := (79, [some (vR 17), some (vR 29), some (vI x), some (vI 0), some (vI (nx (A 18) (F 5) (F 6)))], [vI b40], LAY (u (u (u (u (u (u (u (u A 33 (A 33)) 36 (A 36)) 37 (A 37)) 35 (wr (A 35) x 0)) 30 (wr (A 30) x 1)) 31 (wr (A 31) x v34)) 32 (wr (A 32) x v36)) 34 (wr (A 34) x 1)) (u (u F 7 v36) 6 a40), 0, 0)) hc39 0 rfl trivial ?_
                    refine R_if (t := 95) hc39 rfl rfl (fun (c21 : b40 = 0) => ?_) (fun (c21 : ¬ (b40 = 0)) => ?_)
                    · refine R_s (P := True) (f' := (96, [some (vR 17), some (vR 29), some (vI x), some (vI 0), some (vI (nx (A 18) (F 5) (F 6)))], [vI 0], LAY (u (u (u (u (u (u (u (u A 33 (A 33)) 36 (A 36)) 37 (A 37)) 35 (wr (A 35) x 0)) 30 (wr (A 30) x 1)) 31 (wr (A 31) x v34)) 32 (wr (A 32) x v36)) 34 (wr (A 34) x 1)) (u (u F 7 v36) 6 a40), 0, 0)) hc39 1 rfl trivial ?_
                      refine R_retz hc39 rfl rfl (Or.inl rfl) ⟨0, wr (A 30) x 1, wr (A 31) x v34, wr (A 32) x v36, A 33, wr (A 34) x 1, wr (A 35) x 0, A 36, A 37, a40, v36, rfl, rfl, (by (try simp only [wr_len]); omega), (by (try simp only [wr_len]); omega), (by (try simp only [wr_len]); omega), (by (try simp only [wr_len]); omega), (by (try simp only [wr_len]); omega), (by (try simp only [wr_len]); omega), (by (try simp only [wr_len]); omega), (by (try simp only [wr_len]); omega), by decide, by omega, by omega, fun q hq => by rw [rd_wr_n (by omega) (by omega) (by omega)], fun q hq => by rw [rd_wr_n (by omega) (by omega) (by omega)], fun q hq => by rw [rd_wr_n (by omega) (by omega) (by omega)], fun _ _ => rfl, fun q hq => by rw [rd_wr_n (by omega) (by omega) (by omega)], fun q hq => by rw [rd_wr_n (by omega) (by omega) (by omega)], fun _ _ => rfl, fun _ _ => rfl, ?_⟩
                      have ehw33 : b33 = 1 := by omega
                      rw [ehw33] at hw33
                      have hw33n : wD (A 18) (F 5) LINE (0, F 6) = (0, a33) := hw33
                      have ehw34 : b34 = 1 := by omega
                      rw [ehw34] at hw34
                      have hw34n : dG (A 18) (F 5) 4 (0, a33) = ((0, a34), v34) := hw34
                      have ehw35 : b35 = 1 := by omega
                      rw [ehw35] at hw35
                      have hw35n : wD (A 18) (F 5) PP (0, a34) = (0, a35) := hw35
                      have ehw36 : b36 = 1 := by omega
                      rw [ehw36] at hw36
                      have hw36n : dG (A 18) (F 5) 2 (0, a35) = ((0, a36), v36) := hw36
                      have ehw37 : b37 = 1 := by omega
                      rw [ehw37] at hw37
                      have hw37n : wD (A 18) (F 5) SPC (0, a36) = (0, a37) := hw37
                      have ehw40 : b40 = 0 := by omega
                      rw [ehw40] at hw40
                      have hw40n : wD (A 18) (F 5) HEADS (0, a37) = (1, a40) := hw40
                      have hk : eK (A 18) (F 5) i (0, F 6) = 1 := by
                        unfold eK
                        (try dsimp only)
                        rw [if_neg (fun z => by omega)]
                        rw [if_pos ⟨by omega, by omega⟩]
                      have eP : pN (A 18) (F 5) LINE (0, F 6) = ((0, a34), v34) := by unfold pN; rw [hw33n, hw34n]
                      have eR : pR (A 18) (F 5) LINE (0, F 6) = ((0, a36), v36) := by
                        unfold pR
                        rw [eP]
                        (try dsimp only)
                        rw [hw35n]
                        rw [hw36n]
                      have eL : pL (A 18) (F 5) (0, F 6) = (0, a37) := by
                        unfold pL
                        rw [eR]
                        (try dsimp only)
                        rw [hw37n]
                      have eT : tB (A 18) (F 5) i (0, F 6) = (1, a40) := by
                        rw [(eN_1 hk).2, eL]
                        (try dsimp only)
                        rw [if_neg (by omega), hw40n]
                      have eS : eN (A 18) (F 5) i (0, F 6) = (1, a40) := by rw [(eN_1 hk).1, eT, tS_f]
                      exact ⟨eS, fun z => absurd z (by decide)⟩
                    · refine R_s (P := True) (f' := (85, [some (vR 17), some (vR 29), some (vI x), some (vI 0), some (vI (nx (A 18) (F 5) (F 6)))], [vI x, vR 29, vR 17], LAY (u (u (u (u (u (u (u (u A 33 (A 33)) 36 (A 36)) 37 (A 37)) 35 (wr (A 35) x 0)) 30 (wr (A 30) x 1)) 31 (wr (A 31) x v34)) 32 (wr (A 32) x v36)) 34 (wr (A 34) x 1)) (u (u F 7 v36) 6 a40), 0, 0)) hc39 3 rfl trivial ?_
                      refine R_cv hc39 rfl rfl (l_rtest1 (A := (u (u (u (u (u (u (u (u A 33 (A 33)) 36 (A 36)) 37 (A 37)) 35 (wr (A 35) x 0)) 30 (wr (A 30) x 1)) 31 (wr (A 31) x v34)) 32 (wr (A 32) x v36)) 34 (wr (A 34) x 1))) (F := (u (u F 7 v36) 6 a40)) (LENS_u (LENS_u (LENS_u (LENS_u (LENS_u (LENS_u (LENS_u (LENS_u hL (by show (A 33).length = (A 33).length; omega)) (by show (A 36).length = (A 36).length; omega)) (by show (A 37).length = (A 37).length; omega)) (by show (wr (A 35) x 0).length = (A 35).length; simp only [wr_len])) (by show (wr (A 30) x 1).length = (A 30).length; simp only [wr_len])) (by show (wr (A 31) x v34).length = (A 31).length; simp only [wr_len])) (by show (wr (A 32) x v36).length = (A 32).length; simp only [wr_len])) (by show (wr (A 34) x 1).length = (A 34).length; simp only [wr_len])) h5 ⟨by (show 0 ≤ a40); omega, by (show a40 ≤ F 5); omega⟩ ex hi (by show rd (wr (A 35) x 0) i = 0; rw [← ex]; exact rd_wr_s (by omega) (by omega))) (fun r G9 hp9 => ?_)
                      obtain ⟨b41, s5_41, s6_41, s7_41, a41, v41, rfl, rfl, l41_5, l41_6, l41_7, hb41, p41, q41, kp41_5, kp41_6, kp41_7, hw41, hv41⟩ := hp9
                      have q41 : a41 ≤ F 5 := q41
                      have kp41_5 : ∀ q : Nat, q ≠ i → rd s5_41 q = rd (wr (A 35) x 0) q := kp41_5
                      have kp41_6 : ∀ q : Nat, q ≠ i → rd s6_41 q = rd (A 36) q := kp41_6
                      have kp41_7 : ∀ q : Nat, q ≠ i → rd s7_41 q = rd (A 37) q := kp41_7
                      refine R_s (f' := (88, [some (vR 17), some (vR 29), some (vI x), some (vI 0), some (vI (nx (A 18) (F 5) (F 6)))], [vI b41], LAY (u (u (u (u (u (u (u (u A 33 (A 33)) 30 (wr (A 30) x 1)) 31 (wr (A 31) x v34)) 32 (wr (A 32) x v36)) 34 (wr (A 34) x 1)) 35 s5_41) 36 s6_41) 37 s7_41) (u (u F 6 a41) 7 v41), 0, 0)) hc39 0 rfl trivial ?_
                      refine R_if (t := 95) hc39 rfl rfl (fun (c22 : b41 = 0) => ?_) (fun (c22 : ¬ (b41 = 0)) => ?_)
                      · refine R_s (P := True) (f' := (96, [some (vR 17), some (vR 29), some (vI x), some (vI 0), some (vI (nx (A 18) (F 5) (F 6)))], [vI 0], LAY (u (u (u (u (u (u (u (u A 33 (A 33)) 30 (wr (A 30) x 1)) 31 (wr (A 31) x v34)) 32 (wr (A 32) x v36)) 34 (wr (A 34) x 1)) 35 s5_41) 36 s6_41) 37 s7_41) (u (u F 6 a41) 7 v41), 0, 0)) hc39 1 rfl trivial ?_
                        refine R_retz hc39 rfl rfl (Or.inl rfl) ⟨0, wr (A 30) x 1, wr (A 31) x v34, wr (A 32) x v36, A 33, wr (A 34) x 1, s5_41, s6_41, s7_41, a41, v41, rfl, rfl, (by (try simp only [wr_len]); omega), (by (try simp only [wr_len]); omega), (by (try simp only [wr_len]); omega), (by (try simp only [wr_len]); omega), (by (try simp only [wr_len]); omega), (by (try simp only [wr_len]); omega), (by (try simp only [wr_len]); omega), (by (try simp only [wr_len]); omega), by decide, by omega, by omega, fun q hq => by rw [rd_wr_n (by omega) (by omega) (by omega)], fun q hq => by rw [rd_wr_n (by omega) (by omega) (by omega)], fun q hq => by rw [rd_wr_n (by omega) (by omega) (by omega)], fun _ _ => rfl, fun q hq => by rw [rd_wr_n (by omega) (by omega) (by omega)], fun q hq => by rw [kp41_5 q hq, rd_wr_n (by omega) (by omega) (by omega)], fun q hq => by rw [kp41_6 q hq], fun q hq => by rw [kp41_7 q hq], ?_⟩
                        have ehw33 : b33 = 1 := by omega
                        rw [ehw33] at hw33
                        have hw33n : wD (A 18) (F 5) LINE (0, F 6) = (0, a33) := hw33
                        have ehw34 : b34 = 1 := by omega
                        rw [ehw34] at hw34
                        have hw34n : dG (A 18) (F 5) 4 (0, a33) = ((0, a34), v34) := hw34
                        have ehw35 : b35 = 1 := by omega
                        rw [ehw35] at hw35
                        have hw35n : wD (A 18) (F 5) PP (0, a34) = (0, a35) := hw35
                        have ehw36 : b36 = 1 := by omega
                        rw [ehw36] at hw36
                        have hw36n : dG (A 18) (F 5) 2 (0, a35) = ((0, a36), v36) := hw36
                        have ehw37 : b37 = 1 := by omega
                        rw [ehw37] at hw37
                        have hw37n : wD (A 18) (F 5) SPC (0, a36) = (0, a37) := hw37
                        have ehw40 : b40 = 1 := by omega
                        rw [ehw40] at hw40
                        have hw40n : wD (A 18) (F 5) HEADS (0, a37) = (0, a40) := hw40
                        have ehw41 : b41 = 0 := by omega
                        rw [ehw41] at hw41
                        have hw41n : tS (A 18) (F 5) (0, a40) = (1, a41) := hw41
                        have hk : eK (A 18) (F 5) i (0, F 6) = 1 := by
                          unfold eK
                          (try dsimp only)
                          rw [if_neg (fun z => by omega)]
                          rw [if_pos ⟨by omega, by omega⟩]
                        have eP : pN (A 18) (F 5) LINE (0, F 6) = ((0, a34), v34) := by unfold pN; rw [hw33n, hw34n]
                        have eR : pR (A 18) (F 5) LINE (0, F 6) = ((0, a36), v36) := by
                          unfold pR
                          rw [eP]
                          (try dsimp only)
                          rw [hw35n]
                          rw [hw36n]
                        have eL : pL (A 18) (F 5) (0, F 6) = (0, a37) := by
                          unfold pL
                          rw [eR]
                          (try dsimp only)
                          rw [hw37n]
                        have eT : tB (A 18) (F 5) i (0, F 6) = (0, a40) := by
                          rw [(eN_1 hk).2, eL]
                          (try dsimp only)
                          rw [if_neg (by omega), hw40n]
                        have eS : eN (A 18) (F 5) i (0, F 6) = (1, a41) := by rw [(eN_1 hk).1, eT]; exact hw41n
                        exact ⟨eS, fun z => absurd z (by decide)⟩
                      · refine R_s (P := True) (f' := (96, [some (vR 17), some (vR 29), some (vI x), some (vI 0), some (vI (nx (A 18) (F 5) (F 6)))], [vI 1], LAY (u (u (u (u (u (u (u (u A 33 (A 33)) 30 (wr (A 30) x 1)) 31 (wr (A 31) x v34)) 32 (wr (A 32) x v36)) 34 (wr (A 34) x 1)) 35 s5_41) 36 s6_41) 37 s7_41) (u (u F 6 a41) 7 v41), 0, 0)) hc39 2 rfl trivial ?_
                        refine R_retz hc39 rfl rfl (Or.inr rfl) ⟨1, wr (A 30) x 1, wr (A 31) x v34, wr (A 32) x v36, A 33, wr (A 34) x 1, s5_41, s6_41, s7_41, a41, v41, rfl, rfl, (by (try simp only [wr_len]); omega), (by (try simp only [wr_len]); omega), (by (try simp only [wr_len]); omega), (by (try simp only [wr_len]); omega), (by (try simp only [wr_len]); omega), (by (try simp only [wr_len]); omega), (by (try simp only [wr_len]); omega), (by (try simp only [wr_len]); omega), by decide, by omega, by omega, fun q hq => by rw [rd_wr_n (by omega) (by omega) (by omega)], fun q hq => by rw [rd_wr_n (by omega) (by omega) (by omega)], fun q hq => by rw [rd_wr_n (by omega) (by omega) (by omega)], fun _ _ => rfl, fun q hq => by rw [rd_wr_n (by omega) (by omega) (by omega)], fun q hq => by rw [kp41_5 q hq, rd_wr_n (by omega) (by omega) (by omega)], fun q hq => by rw [kp41_6 q hq], fun q hq => by rw [kp41_7 q hq], ?_⟩
                        have ehw33 : b33 = 1 := by omega
                        rw [ehw33] at hw33
                        have hw33n : wD (A 18) (F 5) LINE (0, F 6) = (0, a33) := hw33
                        have ehw34 : b34 = 1 := by omega
                        rw [ehw34] at hw34
                        have hw34n : dG (A 18) (F 5) 4 (0, a33) = ((0, a34), v34) := hw34
                        have ehw35 : b35 = 1 := by omega
                        rw [ehw35] at hw35
                        have hw35n : wD (A 18) (F 5) PP (0, a34) = (0, a35) := hw35
                        have ehw36 : b36 = 1 := by omega
                        rw [ehw36] at hw36
                        have hw36n : dG (A 18) (F 5) 2 (0, a35) = ((0, a36), v36) := hw36
                        have ehw37 : b37 = 1 := by omega
                        rw [ehw37] at hw37
                        have hw37n : wD (A 18) (F 5) SPC (0, a36) = (0, a37) := hw37
                        have ehw40 : b40 = 1 := by omega
                        rw [ehw40] at hw40
                        have hw40n : wD (A 18) (F 5) HEADS (0, a37) = (0, a40) := hw40
                        have ehw41 : b41 = 1 := by omega
                        rw [ehw41] at hw41
                        have hw41n : tS (A 18) (F 5) (0, a40) = (0, a41) := hw41
                        have hk : eK (A 18) (F 5) i (0, F 6) = 1 := by
                          unfold eK
                          (try dsimp only)
                          rw [if_neg (fun z => by omega)]
                          rw [if_pos ⟨by omega, by omega⟩]
                        have eP : pN (A 18) (F 5) LINE (0, F 6) = ((0, a34), v34) := by unfold pN; rw [hw33n, hw34n]
                        have eR : pR (A 18) (F 5) LINE (0, F 6) = ((0, a36), v36) := by
                          unfold pR
                          rw [eP]
                          (try dsimp only)
                          rw [hw35n]
                          rw [hw36n]
                        have eL : pL (A 18) (F 5) (0, F 6) = (0, a37) := by
                          unfold pL
                          rw [eR]
                          (try dsimp only)
                          rw [hw37n]
                        have eT : tB (A 18) (F 5) i (0, F 6) = (0, a40) := by
                          rw [(eN_1 hk).2, eL]
                          (try dsimp only)
                          rw [if_neg (by omega), hw40n]
                        have eS : eN (A 18) (F 5) i (0, F 6) = (0, a41) := by rw [(eN_1 hk).1, eT]; exact hw41n
                        have r0 : rd (wr (A 30) x 1) i = 1 := by rw [← ex]; exact rd_wr_s (by omega) (by (try simp only [wr_len]); omega)
                        have r1 : rd (wr (A 31) x v34) i = v34 := by rw [← ex]; exact rd_wr_s (by omega) (by (try simp only [wr_len]); omega)
                        have r2 : rd (wr (A 32) x v36) i = v36 := by rw [← ex]; exact rd_wr_s (by omega) (by (try simp only [wr_len]); omega)
                        have r4 : rd (wr (A 34) x 1) i = 1 := by rw [← ex]; exact rd_wr_s (by omega) (by (try simp only [wr_len]); omega)
                        exact ⟨eS, fun _ => ⟨by rw [r0, hk], fun z => absurd z (by rw [r0]; decide), fun _ => ⟨by rw [r1, eP], by rw [r2, eR], by rw [r4, eL]; (try dsimp only); rw [if_neg (by omega)]⟩, fun z => absurd z (by rw [r0]; decide), fun z => absurd z (by rw [r0]; decide), fun _ => by
                          rw [eT]
                          have z := hv41 (by omega)
                          exact ⟨z.1, z.2.imp (fun w => by rw [z.1, w]; rfl) id⟩⟩⟩
                · refine R_s (P := True) (f' := (55, [some (vR 17), some (vR 29), some (vI x)], [vI 0], LAY (u (u (u (u (u (u (u (u A 33 (A 33)) 34 (A 34)) 36 (A 36)) 37 (A 37)) 35 (wr (A 35) x 0)) 30 (wr (A 30) x 1)) 31 (wr (A 31) x v34)) 32 (wr (A 32) x v36)) (u (u F 7 v36) 6 a37), 0, 0)) hc41 1 rfl trivial ?_
                  refine R_retz hc41 rfl rfl (Or.inl rfl) ?_
                  refine R_s (f' := (79, [some (vR 17), some (vR 29), some (vI x), some (vI 0), some (vI (nx (A 18) (F 5) (F 6)))], [vI 0], LAY (u (u (u (u (u (u (u (u A 33 (A 33)) 34 (A 34)) 36 (A 36)) 37 (A 37)) 35 (wr (A 35) x 0)) 30 (wr (A 30) x 1)) 31 (wr (A 31) x v34)) 32 (wr (A 32) x v36)) (u (u F 7 v36) 6 a37), 0, 0)) hc39 0 rfl trivial ?_
                  refine R_if (t := 95) hc39 rfl rfl (fun (_ : 0 = 0) => ?_) (fun (z : ¬ (0 = 0)) => absurd (by decide) z)
                  refine R_s (P := True) (f' := (96, [some (vR 17), some (vR 29), some (vI x), some (vI 0), some (vI (nx (A 18) (F 5) (F 6)))], [vI 0], LAY (u (u (u (u (u (u (u (u A 33 (A 33)) 34 (A 34)) 36 (A 36)) 37 (A 37)) 35 (wr (A 35) x 0)) 30 (wr (A 30) x 1)) 31 (wr (A 31) x v34)) 32 (wr (A 32) x v36)) (u (u F 7 v36) 6 a37), 0, 0)) hc39 1 rfl trivial ?_
                  refine R_retz hc39 rfl rfl (Or.inl rfl) ⟨0, wr (A 30) x 1, wr (A 31) x v34, wr (A 32) x v36, A 33, A 34, wr (A 35) x 0, A 36, A 37, a37, v36, rfl, rfl, (by (try simp only [wr_len]); omega), (by (try simp only [wr_len]); omega), (by (try simp only [wr_len]); omega), (by (try simp only [wr_len]); omega), (by (try simp only [wr_len]); omega), (by (try simp only [wr_len]); omega), (by (try simp only [wr_len]); omega), (by (try simp only [wr_len]); omega), by decide, by omega, by omega, fun q hq => by rw [rd_wr_n (by omega) (by omega) (by omega)], fun q hq => by rw [rd_wr_n (by omega) (by omega) (by omega)], fun q hq => by rw [rd_wr_n (by omega) (by omega) (by omega)], fun _ _ => rfl, fun _ _ => rfl, fun q hq => by rw [rd_wr_n (by omega) (by omega) (by omega)], fun _ _ => rfl, fun _ _ => rfl, ?_⟩
                  have ehw33 : b33 = 1 := by omega
                  rw [ehw33] at hw33
                  have hw33n : wD (A 18) (F 5) LINE (0, F 6) = (0, a33) := hw33
                  have ehw34 : b34 = 1 := by omega
                  rw [ehw34] at hw34
                  have hw34n : dG (A 18) (F 5) 4 (0, a33) = ((0, a34), v34) := hw34
                  have ehw35 : b35 = 1 := by omega
                  rw [ehw35] at hw35
                  have hw35n : wD (A 18) (F 5) PP (0, a34) = (0, a35) := hw35
                  have ehw36 : b36 = 1 := by omega
                  rw [ehw36] at hw36
                  have hw36n : dG (A 18) (F 5) 2 (0, a35) = ((0, a36), v36) := hw36
                  have ehw37 : b37 = 0 := by omega
                  rw [ehw37] at hw37
                  have hw37n : wD (A 18) (F 5) SPC (0, a36) = (1, a37) := hw37
                  have hk : eK (A 18) (F 5) i (0, F 6) = 1 := by
                    unfold eK
                    (try dsimp only)
                    rw [if_neg (fun z => by omega)]
                    rw [if_pos ⟨by omega, by omega⟩]
                  have eP : pN (A 18) (F 5) LINE (0, F 6) = ((0, a34), v34) := by unfold pN; rw [hw33n, hw34n]
                  have eR : pR (A 18) (F 5) LINE (0, F 6) = ((0, a36), v36) := by
                    unfold pR
                    rw [eP]
                    (try dsimp only)
                    rw [hw35n]
                    rw [hw36n]
                  have eL : pL (A 18) (F 5) (0, F 6) = (1, a37) := by
                    unfold pL
                    rw [eR]
                    (try dsimp only)
                    rw [hw37n]
                  have eT : tB (A 18) (F 5) i (0, F 6) = (1, a37) := by
                    rw [(eN_1 hk).2, eL]
                    split
                    · exact wD_f _
                    · exact wD_f _
                  have eS : eN (A 18) (F 5) i (0, F 6) = (1, a37) := by rw [(eN_1 hk).1, eT, tS_f]
                  exact ⟨eS, fun z => absurd z (by decide)⟩
              · refine R_s (P := True) (f' := (18, [some (vR 17), some (vR 29), some (vI x)], [vI 0], LAY (u (u (u (u (u (u (u (u A 32 (A 32)) 33 (A 33)) 34 (A 34)) 36 (A 36)) 37 (A 37)) 35 (wr (A 35) x 0)) 30 (wr (A 30) x 1)) 31 (wr (A 31) x v34)) (u (u F 6 a36) 7 v36), 0, 0)) hc47 1 rfl trivial ?_
                refine R_retz hc47 rfl rfl (Or.inl rfl) ?_
                refine R_s (f' := (42, [some (vR 17), some (vR 29), some (vI x)], [vI 0], LAY (u (u (u (u (u (u (u (u A 32 (A 32)) 33 (A 33)) 34 (A 34)) 36 (A 36)) 37 (A 37)) 35 (wr (A 35) x 0)) 30 (wr (A 30) x 1)) 31 (wr (A 31) x v34)) (u (u F 6 a36) 7 v36), 0, 0)) hc41 0 rfl trivial ?_
                refine R_if (t := 54) hc41 rfl rfl (fun (_ : 0 = 0) => ?_) (fun (z : ¬ (0 = 0)) => absurd (by decide) z)
                refine R_s (P := True) (f' := (55, [some (vR 17), some (vR 29), some (vI x)], [vI 0], LAY (u (u (u (u (u (u (u (u A 32 (A 32)) 33 (A 33)) 34 (A 34)) 36 (A 36)) 37 (A 37)) 35 (wr (A 35) x 0)) 30 (wr (A 30) x 1)) 31 (wr (A 31) x v34)) (u (u F 6 a36) 7 v36), 0, 0)) hc41 1 rfl trivial ?_
                refine R_retz hc41 rfl rfl (Or.inl rfl) ?_
                refine R_s (f' := (79, [some (vR 17), some (vR 29), some (vI x), some (vI 0), some (vI (nx (A 18) (F 5) (F 6)))], [vI 0], LAY (u (u (u (u (u (u (u (u A 32 (A 32)) 33 (A 33)) 34 (A 34)) 36 (A 36)) 37 (A 37)) 35 (wr (A 35) x 0)) 30 (wr (A 30) x 1)) 31 (wr (A 31) x v34)) (u (u F 6 a36) 7 v36), 0, 0)) hc39 0 rfl trivial ?_
                refine R_if (t := 95) hc39 rfl rfl (fun (_ : 0 = 0) => ?_) (fun (z : ¬ (0 = 0)) => absurd (by decide) z)
                refine R_s (P := True) (f' := (96, [some (vR 17), some (vR 29), some (vI x), some (vI 0), some (vI (nx (A 18) (F 5) (F 6)))], [vI 0], LAY (u (u (u (u (u (u (u (u A 32 (A 32)) 33 (A 33)) 34 (A 34)) 36 (A 36)) 37 (A 37)) 35 (wr (A 35) x 0)) 30 (wr (A 30) x 1)) 31 (wr (A 31) x v34)) (u (u F 6 a36) 7 v36), 0, 0)) hc39 1 rfl trivial ?_
                refine R_retz hc39 rfl rfl (Or.inl rfl) ⟨0, wr (A 30) x 1, wr (A 31) x v34, A 32, A 33, A 34, wr (A 35) x 0, A 36, A 37, a36, v36, rfl, rfl, (by (try simp only [wr_len]); omega), (by (try simp only [wr_len]); omega), (by (try simp only [wr_len]); omega), (by (try simp only [wr_len]); omega), (by (try simp only [wr_len]); omega), (by (try simp only [wr_len]); omega), (by (try simp only [wr_len]); omega), (by (try simp only [wr_len]); omega), by decide, by omega, by omega, fun q hq => by rw [rd_wr_n (by omega) (by omega) (by omega)], fun q hq => by rw [rd_wr_n (by omega) (by omega) (by omega)], fun _ _ => rfl, fun _ _ => rfl, fun _ _ => rfl, fun q hq => by rw [rd_wr_n (by omega) (by omega) (by omega)], fun _ _ => rfl, fun _ _ => rfl, ?_⟩
                have ehw33 : b33 = 1 := by omega
                rw [ehw33] at hw33
                have hw33n : wD (A 18) (F 5) LINE (0, F 6) = (0, a33) := hw33
                have ehw34 : b34 = 1 := by omega
                rw [ehw34] at hw34
                have hw34n : dG (A 18) (F 5) 4 (0, a33) = ((0, a34), v34) := hw34
                have ehw35 : b35 = 1 := by omega
                rw [ehw35] at hw35
                have hw35n : wD (A 18) (F 5) PP (0, a34) = (0, a35) := hw35
                have ehw36 : b36 = 0 := by omega
                rw [ehw36] at hw36
                have hw36n : dG (A 18) (F 5) 2 (0, a35) = ((1, a36), v36) := hw36
                have hk : eK (A 18) (F 5) i (0, F 6) = 1 := by
                  unfold eK
                  (try dsimp only)
                  rw [if_neg (fun z => by omega)]
                  rw [if_pos ⟨by omega, by omega⟩]
                have eP : pN (A 18) (F 5) LINE (0, F 6) = ((0, a34), v34) := by unfold pN; rw [hw33n, hw34n]
                have eR : pR (A 18) (F 5) LINE (0, F 6) = ((1, a36), v36) := by
                  unfold pR
                  rw [eP]
                  (try dsimp only)
                  rw [hw35n]
                  rw [hw36n]
                have eL : pL (A 18) (F 5) (0, F 6) = (1, a36) := by
                  unfold pL
                  rw [eR]
                  (try dsimp only)
                  rw [wD_f]
                have eT : tB (A 18) (F 5) i (0, F 6) = (1, a36) := by
                  rw [(eN_1 hk).2, eL]
                  split
                  · exact wD_f _
                  · exact wD_f _
                have eS : eN (A 18) (F 5) i (0, F 6) = (1, a36) := by rw [(eN_1 hk).1, eT, tS_f]
                exact ⟨eS, fun z => absurd z (by decide)⟩
          · refine R_s (P := True) (f' := (25, [some (vR 17), some (vR 29), some (vI x)], [vI 0], LAY (u (u (u (u (u (u (u (u A 31 (A 31)) 32 (A 32)) 33 (A 33)) 34 (A 34)) 36 (A 36)) 37 (A 37)) 35 (wr (A 35) x 0)) 30 (wr (A 30) x 1)) (u (u F 6 a34) 7 v34), 0, 0)) hc41 1 rfl trivial ?_
            refine R_retz hc41 rfl rfl (Or.inl rfl) ?_
            refine R_s (f' := (79, [some (vR 17), some (vR 29), some (vI x), some (vI 0), some (vI (nx (A 18) (F 5) (F 6)))], [vI 0], LAY (u (u (u (u (u (u (u (u A 31 (A 31)) 32 (A 32)) 33 (A 33)) 34 (A 34)) 36 (A 36)) 37 (A 37)) 35 (wr (A 35) x 0)) 30 (wr (A 30) x 1)) (u (u F 6 a34) 7 v34), 0, 0)) hc39 0 rfl trivial ?_
            refine R_if (t := 95) hc39 rfl rfl (fun (_ : 0 = 0) => ?_) (fun (z : ¬ (0 = 0)) => absurd (by decide) z)
            refine R_s (P := True) (f' := (96, [some (vR 17), some (vR 29), some (vI x), some (vI 0), some (vI (nx (A 18) (F 5) (F 6)))], [vI 0], LAY (u (u (u (u (u (u (u (u A 31 (A 31)) 32 (A 32)) 33 (A 33)) 34 (A 34)) 36 (A 36)) 37 (A 37)) 35 (wr (A 35) x 0)) 30 (wr (A 30) x 1)) (u (u F 6 a34) 7 v34), 0, 0)) hc39 1 rfl trivial ?_
            refine R_retz hc39 rfl rfl (Or.inl rfl) ⟨0, wr (A 30) x 1, A 31, A 32, A 33, A 34, wr (A 35) x 0, A 36, A 37, a34, v34, rfl, rfl, (by (try simp only [wr_len]); omega), (by (try simp only [wr_len]); omega), (by (try simp only [wr_len]); omega), (by (try simp only [wr_len]); omega), (by (try simp only [wr_len]); omega), (by (try simp only [wr_len]); omega), (by (try simp only [wr_len]); omega), (by (try simp only [wr_len]); omega), by decide, by omega, by omega, fun q hq => by rw [rd_wr_n (by omega) (by omega) (by omega)], fun _ _ => rfl, fun _ _ => rfl, fun _ _ => rfl, fun _ _ => rfl, fun q hq => by rw [rd_wr_n (by omega) (by omega) (by omega)], fun _ _ => rfl, fun _ _ => rfl, ?_⟩
            have ehw33 : b33 = 1 := by omega
            rw [ehw33] at hw33
            have hw33n : wD (A 18) (F 5) LINE (0, F 6) = (0, a33) := hw33
            have ehw34 : b34 = 0 := by omega
            rw [ehw34] at hw34
            have hw34n : dG (A 18) (F 5) 4 (0, a33) = ((1, a34), v34) := hw34
            have hk : eK (A 18) (F 5) i (0, F 6) = 1 := by
              unfold eK
              (try dsimp only)
              rw [if_neg (fun z => by omega)]
              rw [if_pos ⟨by omega, by omega⟩]
            have eP : pN (A 18) (F 5) LINE (0, F 6) = ((1, a34), v34) := by unfold pN; rw [hw33n, hw34n]
            have eR : pR (A 18) (F 5) LINE (0, F 6) = ((1, a34), 0) := by
              unfold pR
              rw [eP]
              (try dsimp only)
              rw [wD_f]
              rw [dG_f]
            have eL : pL (A 18) (F 5) (0, F 6) = (1, a34) := by
              unfold pL
              rw [eR]
              (try dsimp only)
              rw [wD_f]
            have eT : tB (A 18) (F 5) i (0, F 6) = (1, a34) := by
              rw [(eN_1 hk).2, eL]
              split
              · exact wD_f _
              · exact wD_f _
            have eS : eN (A 18) (F 5) i (0, F 6) = (1, a34) := by rw [(eN_1 hk).1, eT, tS_f]
            exact ⟨eS, fun z => absurd z (by decide)⟩
    · refine R_s (P := True) (f' := (35, [some (vR 17), some (vR 29), some (vI x), some (vI 0), some (vI (nx (A 18) (F 5) (F 6)))], [vI 0], LAY (u (u (u (u (u (u (u (u A 30 (A 30)) 31 (A 31)) 32 (A 32)) 33 (A 33)) 34 (A 34)) 36 (A 36)) 37 (A 37)) 35 (wr (A 35) x 0)) (u (u F 6 (F 6)) 7 (F 7)), 0, 0)) hc39 1 rfl trivial ?_
      refine R_if (t := 62) hc39 rfl rfl (fun (z : ¬ 0 = 0) => absurd z (by decide)) (fun (_ : ¬ (¬ 0 = 0)) => ?_)
      refine R_s (P := True) (f' := (41, [some (vR 17), some (vR 29), some (vI x), some (vI 0), some (vI (nx (A 18) (F 5) (F 6)))], [vI x, vR 29, vR 17], LAY (u (u (u (u (u (u (u (u A 30 (A 30)) 31 (A 31)) 32 (A 32)) 33 (A 33)) 34 (A 34)) 36 (A 36)) 37 (A 37)) 35 (wr (A 35) x 0)) (u (u F 6 (F 6)) 7 (F 7)), 0, 0)) hc39 3 rfl trivial ?_
      refine R_cv hc39 rfl rfl ?_ (fun r G h => h)
      refine R_s (P := (0 ≤ x ∧ x < ((A 30).length : Int)) ∧ True) (f' := (10, [some (vR 17), some (vR 29), some (vI x)], [vS 0, vR 17], LAY (u (u (u (u (u (u (u (u A 31 (A 31)) 32 (A 32)) 33 (A 33)) 34 (A 34)) 36 (A 36)) 37 (A 37)) 35 (wr (A 35) x 0)) 30 (wr (A 30) x 0)) (u (u F 6 (F 6)) 7 (F 7)), 0, 0)) hc40 7 rfl ⟨⟨by omega, by omega⟩, trivial⟩ ?_
      refine R_cv hc40 rfl rfl (l_word0 (A := (u (u (u (u (u (u (u (u A 31 (A 31)) 32 (A 32)) 33 (A 33)) 34 (A 34)) 36 (A 36)) 37 (A 37)) 35 (wr (A 35) x 0)) 30 (wr (A 30) x 0))) (F := (u (u F 6 (F 6)) 7 (F 7))) (LENS_u (LENS_u (LENS_u (LENS_u (LENS_u (LENS_u (LENS_u (LENS_u hL (by show (A 31).length = (A 31).length; omega)) (by show (A 32).length = (A 32).length; omega)) (by show (A 33).length = (A 33).length; omega)) (by show (A 34).length = (A 34).length; omega)) (by show (A 36).length = (A 36).length; omega)) (by show (A 37).length = (A 37).length; omega)) (by show (wr (A 35) x 0).length = (A 35).length; simp only [wr_len])) (by show (wr (A 30) x 0).length = (A 30).length; simp only [wr_len])) h5 ⟨by (show 0 ≤ F 6); omega, by (show F 6 ≤ F 5); omega⟩) (fun r G9 hp9 => ?_)
      obtain ⟨b42, a42, rfl, rfl, hb42, hw42, p42, q42⟩ := hp9
      have p42 : 0 ≤ a42 := p42
      have q42 : a42 ≤ F 5 := q42
      refine R_s (f' := (13, [some (vR 17), some (vR 29), some (vI x)], [vI b42], LAY (u (u (u (u (u (u (u (u A 31 (A 31)) 32 (A 32)) 33 (A 33)) 34 (A 34)) 36 (A 36)) 37 (A 37)) 35 (wr (A 35) x 0)) 30 (wr (A 30) x 0)) (u (u F 7 (F 7)) 6 a42), 0, 0)) hc40 0 rfl trivial ?_
      refine R_if (t := 24) hc40 rfl rfl (fun (c19 : b42 = 0) => ?_) (fun (c19 : ¬ (b42 = 0)) => ?_)
      · refine R_s (P := True) (f' := (25, [some (vR 17), some (vR 29), some (vI x)], [vI 0], LAY (u (u (u (u (u (u (u (u A 31 (A 31)) 32 (A 32)) 33 (A 33)) 34 (A 34)) 36 (A 36)) 37 (A 37)) 35 (wr (A 35) x 0)) 30 (wr (A 30) x 0)) (u (u F 7 (F 7)) 6 a42), 0, 0)) hc40 1 rfl trivial ?_
        refine R_retz hc40 rfl rfl (Or.inl rfl) ?_
        refine R_s (f' := (44, [some (vR 17), some (vR 29), some (vI x), some (vI 0), some (vI (nx (A 18) (F 5) (F 6)))], [vI 0], LAY (u (u (u (u (u (u (u (u A 31 (A 31)) 32 (A 32)) 33 (A 33)) 34 (A 34)) 36 (A 36)) 37 (A 37)) 35 (wr (A 35) x 0)) 30 (wr (A 30) x 0)) (u (u F 7 (F 7)) 6 a42), 0, 0)) hc39 0 rfl trivial ?_
        refine R_if (t := 60) hc39 rfl rfl (fun (_ : 0 = 0) => ?_) (fun (z : ¬ (0 = 0)) => absurd (by decide) z)
        refine R_s (P := True) (f' := (61, [some (vR 17), some (vR 29), some (vI x), some (vI 0), some (vI (nx (A 18) (F 5) (F 6)))], [vI 0], LAY (u (u (u (u (u (u (u (u A 31 (A 31)) 32 (A 32)) 33 (A 33)) 34 (A 34)) 36 (A 36)) 37 (A 37)) 35 (wr (A 35) x 0)) 30 (wr (A 30) x 0)) (u (u F 7 (F 7)) 6 a42), 0, 0)) hc39 1 rfl trivial ?_
        refine R_retz hc39 rfl rfl (Or.inl rfl) ⟨0, wr (A 30) x 0, A 31, A 32, A 33, A 34, wr (A 35) x 0, A 36, A 37, a42, F 7, rfl, rfl, (by (try simp only [wr_len]); omega), (by (try simp only [wr_len]); omega), (by (try simp only [wr_len]); omega), (by (try simp only [wr_len]); omega), (by (try simp only [wr_len]); omega), (by (try simp only [wr_len]); omega), (by (try simp only [wr_len]); omega), (by (try simp only [wr_len]); omega), by decide, by omega, by omega, fun q hq => by rw [rd_wr_n (by omega) (by omega) (by omega)], fun _ _ => rfl, fun _ _ => rfl, fun _ _ => rfl, fun _ _ => rfl, fun q hq => by rw [rd_wr_n (by omega) (by omega) (by omega)], fun _ _ => rfl, fun _ _ => rfl, ?_⟩
        have ehw42 : b42 = 0 := by omega
        rw [ehw42] at hw42
        have hw42n : wD (A 18) (F 5) FIX (0, F 6) = (1, a42) := hw42
        have hk : eK (A 18) (F 5) i (0, F 6) = 0 := by
          unfold eK
          (try dsimp only)
          rw [if_pos ⟨by omega, by omega⟩]
        have eP : pN (A 18) (F 5) FIX (0, F 6) = ((1, a42), 0) := by unfold pN; rw [hw42n, dG_f]
        have eH : pH (A 18) (F 5) (0, F 6) = ((1, a42), 0) := by
          unfold pH
          rw [eP]
          (try dsimp only)
          rw [wD_f]
          rw [hS_f]
        have eT : tB (A 18) (F 5) i (0, F 6) = (1, a42) := by rw [(eN_0 hk).2, eH]
        have eS : eN (A 18) (F 5) i (0, F 6) = (1, a42) := by rw [(eN_0 hk).1, eT, tS_f]
        exact ⟨eS, fun z => absurd z (by decide)⟩
      · refine R_s (P := True) (f' := (18, [some (vR 17), some (vR 29), some (vI x)], [vI 4, vR 17], LAY (u (u (u (u (u (u (u (u A 31 (A 31)) 32 (A 32)) 33 (A 33)) 34 (A 34)) 36 (A 36)) 37 (A 37)) 35 (wr (A 35) x 0)) 30 (wr (A 30) x 0)) (u (u F 7 (F 7)) 6 a42), 0, 0)) hc40 2 rfl trivial ?_
        refine R_cv hc40 rfl rfl (l_numb (A := (u (u (u (u (u (u (u (u A 31 (A 31)) 32 (A 32)) 33 (A 33)) 34 (A 34)) 36 (A 36)) 37 (A 37)) 35 (wr (A 35) x 0)) 30 (wr (A 30) x 0))) (F := (u (u F 7 (F 7)) 6 a42)) (LENS_u (LENS_u (LENS_u (LENS_u (LENS_u (LENS_u (LENS_u (LENS_u hL (by show (A 31).length = (A 31).length; omega)) (by show (A 32).length = (A 32).length; omega)) (by show (A 33).length = (A 33).length; omega)) (by show (A 34).length = (A 34).length; omega)) (by show (A 36).length = (A 36).length; omega)) (by show (A 37).length = (A 37).length; omega)) (by show (wr (A 35) x 0).length = (A 35).length; simp only [wr_len])) (by show (wr (A 30) x 0).length = (A 30).length; simp only [wr_len])) h5 ⟨by (show 0 ≤ a42); omega, by (show a42 ≤ F 5); omega⟩ (kk := 4) (by decide) rfl) (fun r G9 hp9 => ?_)
        obtain ⟨b43, a43, v43, rfl, rfl, hb43, hw43, p43, q43, w43⟩ := hp9
        have p43 : 0 ≤ a43 := p43
        have q43 : a43 ≤ F 5 := q43
        refine R_s (f' := (21, [some (vR 17), some (vR 29), some (vI x)], [vI b43], LAY (u (u (u (u (u (u (u (u A 31 (A 31)) 32 (A 32)) 33 (A 33)) 34 (A 34)) 36 (A 36)) 37 (A 37)) 35 (wr (A 35) x 0)) 30 (wr (A 30) x 0)) (u (u F 6 a43) 7 v43), 0, 0)) hc40 0 rfl trivial ?_
        refine R_if (t := 26) hc40 rfl rfl (fun (c20 : ¬ b43 = 0) => ?_) (fun (c20 : ¬ (¬ b43 = 0)) => ?_)
        · refine R_s (P := (0 ≤ x ∧ x < ((A 31).length : Int)) ∧ True) (f' := (39, [some (vR 17), some (vR 29), some (vI x)], [vS 1, vR 17], LAY (u (u (u (u (u (u (u (u A 32 (A 32)) 33 (A 33)) 34 (A 34)) 36 (A 36)) 37 (A 37)) 35 (wr (A 35) x 0)) 30 (wr (A 30) x 0)) 31 (wr (A 31) x v43)) (u (u F 6 a43) 7 v43), 0, 0)) hc40 8 rfl ⟨⟨by omega, by omega⟩, trivial⟩ ?_
          refine R_cv hc40 rfl rfl (l_word1 (A := (u (u (u (u (u (u (u (u A 32 (A 32)) 33 (A 33)) 34 (A 34)) 36 (A 36)) 37 (A 37)) 35 (wr (A 35) x 0)) 30 (wr (A 30) x 0)) 31 (wr (A 31) x v43))) (F := (u (u F 6 a43) 7 v43)) (LENS_u (LENS_u (LENS_u (LENS_u (LENS_u (LENS_u (LENS_u (LENS_u hL (by show (A 32).length = (A 32).length; omega)) (by show (A 33).length = (A 33).length; omega)) (by show (A 34).length = (A 34).length; omega)) (by show (A 36).length = (A 36).length; omega)) (by show (A 37).length = (A 37).length; omega)) (by show (wr (A 35) x 0).length = (A 35).length; simp only [wr_len])) (by show (wr (A 30) x 0).length = (A 30).length; simp only [wr_len])) (by show (wr (A 31) x v43).length = (A 31).length; simp only [wr_len])) h5 ⟨by (show 0 ≤ a43); omega, by (show a43 ≤ F 5); omega⟩) (fun r G9 hp9 => ?_)
          obtain ⟨b44, a44, rfl, rfl, hb44, hw44, p44, q44⟩ := hp9
          have p44 : 0 ≤ a44 := p44
          have q44 : a44 ≤ F 5 := q44
          refine R_s (f' := (42, [some (vR 17), some (vR 29), some (vI x)], [vI b44], LAY (u (u (u (u (u (u (u (u A 32 (A 32)) 33 (A 33)) 34 (A 34)) 36 (A 36)) 37 (A 37)) 35 (wr (A 35) x 0)) 30 (wr (A 30) x 0)) 31 (wr (A 31) x v43)) (u (u F 7 v43) 6 a44), 0, 0)) hc40 0 rfl trivial ?_
          refine R_if (t := 58) hc40 rfl rfl (fun (c21 : b44 = 0) => ?_) (fun (c21 : ¬ (b44 = 0)) => ?_)
          · refine R_s (P := True) (f' := (59, [some (vR 17), some (vR 29), some (vI x)], [vI 0], LAY (u (u (u (u (u (u (u (u A 32 (A 32)) 33 (A 33)) 34 (A 34)) 36 (A 36)) 37 (A 37)) 35 (wr (A 35) x 0)) 30 (wr (A 30) x 0)) 31 (wr (A 31) x v43)) (u (u F 7 v43) 6 a44), 0, 0)) hc40 1 rfl trivial ?_
            refine R_retz hc40 rfl rfl (Or.inl rfl) ?_
            refine R_s (f' := (44, [some (vR 17), some (vR 29), some (vI x), some (vI 0), some (vI (nx (A 18) (F 5) (F 6)))], [vI 0], LAY (u (u (u (u (u (u (u (u A 32 (A 32)) 33 (A 33)) 34 (A 34)) 36 (A 36)) 37 (A 37)) 35 (wr (A 35) x 0)) 30 (wr (A 30) x 0)) 31 (wr (A 31) x v43)) (u (u F 7 v43) 6 a44), 0, 0)) hc39 0 rfl trivial ?_
            refine R_if (t := 60) hc39 rfl rfl (fun (_ : 0 = 0) => ?_) (fun (z : ¬ (0 = 0)) => absurd (by decide) z)
            refine R_s (P := True) (f' := (61, [some (vR 17), some (vR 29), some (vI x), some (vI 0), some (vI (nx (A 18) (F 5) (F 6)))], [vI 0], LAY (u (u (u (u (u (u (u (u A 32 (A 32)) 33 (A 33)) 34 (A 34)) 36 (A 36)) 37 (A 37)) 35 (wr (A 35) x 0)) 30 (wr (A 30) x 0)) 31 (wr (A 31) x v43)) (u (u F 7 v43) 6 a44), 0, 0)) hc39 1 rfl trivial ?_
            refine R_retz hc39 rfl rfl (Or.inl rfl) ⟨0, wr (A 30) x 0, wr (A 31) x v43, A 32, A 33, A 34, wr (A 35) x 0, A 36, A 37, a44, v43, rfl, rfl, (by (try simp only [wr_len]); omega), (by (try simp only [wr_len]); omega), (by (try simp only [wr_len]); omega), (by (try simp only [wr_len]); omega), (by (try simp only [wr_len]); omega), (by (try simp only [wr_len]); omega), (by (try simp only [wr_len]); omega), (by (try simp only [wr_len]); omega), by decide, by omega, by omega, fun q hq => by rw [rd_wr_n (by omega) (by omega) (by omega)], fun q hq => by rw [rd_wr_n (by omega) (by omega) (by omega)], fun _ _ => rfl, fun _ _ => rfl, fun _ _ => rfl, fun q hq => by rw [rd_wr_n (by omega) (by omega) (by omega)], fun _ _ => rfl, fun _ _ => rfl, ?_⟩
            have ehw42 : b42 = 1 := by omega
            rw [ehw42] at hw42
            have hw42n : wD (A 18) (F 5) FIX (0, F 6) = (0, a42) := hw42
            have ehw43 : b43 = 1 := by omega
            rw [ehw43] at hw43
            have hw43n : dG (A 18) (F 5) 4 (0, a42) = ((0, a43), v43) := hw43
            have ehw44 : b44 = 0 := by omega
            rw [ehw44] at hw44
            have hw44n : wD (A 18) (F 5) SPC (0, a43) = (1, a44) := hw44
            have hk : eK (A 18) (F 5) i (0, F 6) = 0 := by
              unfold eK
              (try dsimp only)
              rw [if_pos ⟨by omega, by omega⟩]
            have eP : pN (A 18) (F 5) FIX (0, F 6) = ((0, a43), v43) := by unfold pN; rw [hw42n, hw43n]
            have eH : pH (A 18) (F 5) (0, F 6) = ((1, a44), 0) := by
              unfold pH
              rw [eP]
              (try dsimp only)
              rw [hw44n]
              rw [hS_f]
            have eT : tB (A 18) (F 5) i (0, F 6) = (1, a44) := by rw [(eN_0 hk).2, eH]
            have eS : eN (A 18) (F 5) i (0, F 6) = (1, a44) := by rw [(eN_0 hk).1, eT, tS_f]
            exact ⟨eS, fun z => absurd z (by decide)⟩
          · refine R_s (P := True) (f' := (48, [some (vR 17), some (vR 29), some (vI x)], [vI x, vR 29, vR 17], LAY (u (u (u (u (u (u (u (u A 32 (A 32)) 33 (A 33)) 34 (A 34)) 36 (A 36)) 37 (A 37)) 35 (wr (A 35) x 0)) 30 (wr (A 30) x 0)) 31 (wr (A 31) x v43)) (u (u F 7 v43) 6 a44), 0, 0)) hc40 3 rfl trivial ?_
            refine R_cv hc40 rfl rfl (l_rhouse1 (A := (u (u (u (u (u (u (u (u A 32 (A 32)) 33 (A 33)) 34 (A 34)) 36 (A 36)) 37 (A 37)) 35 (wr (A 35) x 0)) 30 (wr (A 30) x 0)) 31 (wr (A 31) x v43))) (F := (u (u F 7 v43) 6 a44)) (LENS_u (LENS_u (LENS_u (LENS_u (LENS_u (LENS_u (LENS_u (LENS_u hL (by show (A 32).length = (A 32).length; omega)) (by show (A 33).length = (A 33).length; omega)) (by show (A 34).length = (A 34).length; omega)) (by show (A 36).length = (A 36).length; omega)) (by show (A 37).length = (A 37).length; omega)) (by show (wr (A 35) x 0).length = (A 35).length; simp only [wr_len])) (by show (wr (A 30) x 0).length = (A 30).length; simp only [wr_len])) (by show (wr (A 31) x v43).length = (A 31).length; simp only [wr_len])) h5 ⟨by (show 0 ≤ a44); omega, by (show a44 ≤ F 5); omega⟩ ex hi) (fun r G9 hp9 => ?_)
            obtain ⟨b45, h3_45, a45, v45, rfl, rfl, l45, hb45, p45, q45, kp45, h45, hw45, hv45⟩ := hp9
            have q45 : a45 ≤ F 5 := q45
            have kp45 : ∀ q : Nat, q ≠ i → rd h3_45 q = rd (A 33) q := kp45
            refine R_s (f' := (51, [some (vR 17), some (vR 29), some (vI x)], [vI b45], LAY (u (u (u (u (u (u (u (u A 32 (A 32)) 34 (A 34)) 36 (A 36)) 37 (A 37)) 35 (wr (A 35) x 0)) 30 (wr (A 30) x 0)) 31 (wr (A 31) x v43)) 33 h3_45) (u (u F 6 a45) 7 v45), 0, 0)) hc40 0 rfl trivial ?_
            refine R_if (t := 58) hc40 rfl rfl (fun (c22 : b45 = 0) => ?_) (fun (c22 : ¬ (b45 = 0)) => ?_)
            · refine R_s (P := True) (f' := (59, [some (vR 17), some (vR 29), some (vI x)], [vI 0], LAY (u (u (u (u (u (u (u (u A 32 (A 32)) 34 (A 34)) 36 (A 36)) 37 (A 37)) 35 (wr (A 35) x 0)) 30 (wr (A 30) x 0)) 31 (wr (A 31) x v43)) 33 h3_45) (u (u F 6 a45) 7 v45), 0, 0)) hc40 1 rfl trivial ?_
              refine R_retz hc40 rfl rfl (Or.inl rfl) ?_
              refine R_s (f' := (44, [some (vR 17), some (vR 29), some (vI x), some (vI 0), some (vI (nx (A 18) (F 5) (F 6)))], [vI 0], LAY (u (u (u (u (u (u (u (u A 32 (A 32)) 34 (A 34)) 36 (A 36)) 37 (A 37)) 35 (wr (A 35) x 0)) 30 (wr (A 30) x 0)) 31 (wr (A 31) x v43)) 33 h3_45) (u (u F 6 a45) 7 v45), 0, 0)) hc39 0 rfl trivial ?_
              refine R_if (t := 60) hc39 rfl rfl (fun (_ : 0 = 0) => ?_) (fun (z : ¬ (0 = 0)) => absurd (by decide) z)
              refine R_s (P := True) (f' := (61, [some (vR 17), some (vR 29), some (vI x), some (vI 0), some (vI (nx (A 18) (F 5) (F 6)))], [vI 0], LAY (u (u (u (u (u (u (u (u A 32 (A 32)) 34 (A 34)) 36 (A 36)) 37 (A 37)) 35 (wr (A 35) x 0)) 30 (wr (A 30) x 0)) 31 (wr (A 31) x v43)) 33 h3_45) (u (u F 6 a45) 7 v45), 0, 0)) hc39 1 rfl trivial ?_
              refine R_retz hc39 rfl rfl (Or.inl rfl) ⟨0, wr (A 30) x 0, wr (A 31) x v43, A 32, h3_45, A 34, wr (A 35) x 0, A 36, A 37, a45, v45, rfl, rfl, (by (try simp only [wr_len]); omega), (by (try simp only [wr_len]); omega), (by (try simp only [wr_len]); omega), (by (try simp only [wr_len]); omega), (by (try simp only [wr_len]); omega), (by (try simp only [wr_len]); omega), (by (try simp only [wr_len]); omega), (by (try simp only [wr_len]); omega), by decide, by omega, by omega, fun q hq => by rw [rd_wr_n (by omega) (by omega) (by omega)], fun q hq => by rw [rd_wr_n (by omega) (by omega) (by omega)], fun _ _ => rfl, fun q hq => by rw [kp45 q hq], fun _ _ => rfl, fun q hq => by rw [rd_wr_n (by omega) (by omega) (by omega)], fun _ _ => rfl, fun _ _ => rfl, ?_⟩
              have ehw42 : b42 = 1 := by omega
              rw [ehw42] at hw42
              have hw42n : wD (A 18) (F 5) FIX (0, F 6) = (0, a42) := hw42
              have ehw43 : b43 = 1 := by omega
              rw [ehw43] at hw43
              have hw43n : dG (A 18) (F 5) 4 (0, a42) = ((0, a43), v43) := hw43
              have ehw44 : b44 = 1 := by omega
              rw [ehw44] at hw44
              have hw44n : wD (A 18) (F 5) SPC (0, a43) = (0, a44) := hw44
              have ehw45 : b45 = 0 := by omega
              rw [ehw45] at hw45
              have hw45n : hS (A 18) (F 5) (0, a44) = ((1, a45), h45) := hw45
              have hk : eK (A 18) (F 5) i (0, F 6) = 0 := by
                unfold eK
                (try dsimp only)
                rw [if_pos ⟨by omega, by omega⟩]
              have eP : pN (A 18) (F 5) FIX (0, F 6) = ((0, a43), v43) := by unfold pN; rw [hw42n, hw43n]
              have eH : pH (A 18) (F 5) (0, F 6) = ((1, a45), h45) := by
                unfold pH
                rw [eP]
                (try dsimp only)
                rw [hw44n]
                rw [hw45n]
              have eT : tB (A 18) (F 5) i (0, F 6) = (1, a45) := by rw [(eN_0 hk).2, eH]
              have eS : eN (A 18) (F 5) i (0, F 6) = (1, a45) := by rw [(eN_0 hk).1, eT, tS_f]
              exact ⟨eS, fun z => absurd z (by decide)⟩
            · refine R_s (P := True) (f' := (59, [some (vR 17), some (vR 29), some (vI x)], [vI 1], LAY (u (u (u (u (u (u (u (u A 32 (A 32)) 34 (A 34)) 36 (A 36)) 37 (A 37)) 35 (wr (A 35) x 0)) 30 (wr (A 30) x 0)) 31 (wr (A 31) x v43)) 33 h3_45) (u (u F 6 a45) 7 v45), 0, 0)) hc40 2 rfl trivial ?_
              refine R_retz hc40 rfl rfl (Or.inr rfl) ?_
              refine R_s (f' := (44, [some (vR 17), some (vR 29), some (vI x), some (vI 0), some (vI (nx (A 18) (F 5) (F 6)))], [vI 1], LAY (u (u (u (u (u (u (u (u A 32 (A 32)) 34 (A 34)) 36 (A 36)) 37 (A 37)) 35 (wr (A 35) x 0)) 30 (wr (A 30) x 0)) 31 (wr (A 31) x v43)) 33 h3_45) (u (u F 6 a45) 7 v45), 0, 0)) hc39 0 rfl trivial ?_
              refine R_if (t := 60) hc39 rfl rfl (fun (z : 1 = 0) => absurd z (by decide)) (fun (_ : ¬ (1 = 0)) => ?_)
              refine R_s (P := True) (f' := (50, [some (vR 17), some (vR 29), some (vI x), some (vI 0), some (vI (nx (A 18) (F 5) (F 6)))], [vI x, vR 29, vR 17], LAY (u (u (u (u (u (u (u (u A 32 (A 32)) 34 (A 34)) 36 (A 36)) 37 (A 37)) 35 (wr (A 35) x 0)) 30 (wr (A 30) x 0)) 31 (wr (A 31) x v43)) 33 h3_45) (u (u F 6 a45) 7 v45), 0, 0)) hc39 3 rfl trivial ?_
              refine R_cv hc39 rfl rfl (l_rtest1 (A := (u (u (u (u (u (u (u (u A 32 (A 32)) 34 (A 34)) 36 (A 36)) 37 (A 37)) 35 (wr (A 35) x 0)) 30 (wr (A 30) x 0)) 31 (wr (A 31) x v43)) 33 h3_45)) (F := (u (u F 6 a45) 7 v45)) (LENS_u (LENS_u (LENS_u (LENS_u (LENS_u (LENS_u (LENS_u (LENS_u hL (by show (A 32).length = (A 32).length; omega)) (by show (A 34).length = (A 34).length; omega)) (by show (A 36).length = (A 36).length; omega)) (by show (A 37).length = (A 37).length; omega)) (by show (wr (A 35) x 0).length = (A 35).length; simp only [wr_len])) (by show (wr (A 30) x 0).length = (A 30).length; simp only [wr_len])) (by show (wr (A 31) x v43).length = (A 31).length; simp only [wr_len])) (by show (h3_45).length = (A 33).length; omega)) h5 ⟨by (show 0 ≤ a45); omega, by (show a45 ≤ F 5); omega⟩ ex hi (by show rd (wr (A 35) x 0) i = 0; rw [← ex]; exact rd_wr_s (by omega) (by omega))) (fun r G9 hp9 => ?_)
              obtain ⟨b46, s5_46, s6_46, s7_46, a46, v46, rfl, rfl, l46_5, l46_6, l46_7, hb46, p46, q46, kp46_5, kp46_6, kp46_7, hw46, hv46⟩ := hp9
              have q46 : a46 ≤ F 5 := q46
              have kp46_5 : ∀ q : Nat, q ≠ i → rd s5_46 q = rd (wr (A 35) x 0) q := kp46_5
              have kp46_6 : ∀ q : Nat, q ≠ i → rd s6_46 q = rd (A 36) q := kp46_6
              have kp46_7 : ∀ q : Nat, q ≠ i → rd s7_46 q = rd (A 37) q := kp46_7
              refine R_s (f' := (53, [some (vR 17), some (vR 29), some (vI x), some (vI 0), some (vI (nx (A 18) (F 5) (F 6)))], [vI b46], LAY (u (u (u (u (u (u (u (u A 32 (A 32)) 34 (A 34)) 30 (wr (A 30) x 0)) 31 (wr (A 31) x v43)) 33 h3_45) 35 s5_46) 36 s6_46) 37 s7_46) (u (u F 6 a46) 7 v46), 0, 0)) hc39 0 rfl trivial ?_
              refine R_if (t := 60) hc39 rfl rfl (fun (c24 : b46 = 0) => ?_) (fun (c24 : ¬ (b46 = 0)) => ?_)
              · refine R_s (P := True) (f' := (61, [some (vR 17), some (vR 29), some (vI x), some (vI 0), some (vI (nx (A 18) (F 5) (F 6)))], [vI 0], LAY (u (u (u (u (u (u (u (u A 32 (A 32)) 34 (A 34)) 30 (wr (A 30) x 0)) 31 (wr (A 31) x v43)) 33 h3_45) 35 s5_46) 36 s6_46) 37 s7_46) (u (u F 6 a46) 7 v46), 0, 0)) hc39 1 rfl trivial ?_
                refine R_retz hc39 rfl rfl (Or.inl rfl) ⟨0, wr (A 30) x 0, wr (A 31) x v43, A 32, h3_45, A 34, s5_46, s6_46, s7_46, a46, v46, rfl, rfl, (by (try simp only [wr_len]); omega), (by (try simp only [wr_len]); omega), (by (try simp only [wr_len]); omega), (by (try simp only [wr_len]); omega), (by (try simp only [wr_len]); omega), (by (try simp only [wr_len]); omega), (by (try simp only [wr_len]); omega), (by (try simp only [wr_len]); omega), by decide, by omega, by omega, fun q hq => by rw [rd_wr_n (by omega) (by omega) (by omega)], fun q hq => by rw [rd_wr_n (by omega) (by omega) (by omega)], fun _ _ => rfl, fun q hq => by rw [kp45 q hq], fun _ _ => rfl, fun q hq => by rw [kp46_5 q hq, rd_wr_n (by omega) (by omega) (by omega)], fun q hq => by rw [kp46_6 q hq], fun q hq => by rw [kp46_7 q hq], ?_⟩
                have ehw42 : b42 = 1 := by omega
                rw [ehw42] at hw42
                have hw42n : wD (A 18) (F 5) FIX (0, F 6) = (0, a42) := hw42
                have ehw43 : b43 = 1 := by omega
                rw [ehw43] at hw43
                have hw43n : dG (A 18) (F 5) 4 (0, a42) = ((0, a43), v43) := hw43
                have ehw44 : b44 = 1 := by omega
                rw [ehw44] at hw44
                have hw44n : wD (A 18) (F 5) SPC (0, a43) = (0, a44) := hw44
                have ehw45 : b45 = 1 := by omega
                rw [ehw45] at hw45
                have hw45n : hS (A 18) (F 5) (0, a44) = ((0, a45), h45) := hw45
                have ehw46 : b46 = 0 := by omega
                rw [ehw46] at hw46
                have hw46n : tS (A 18) (F 5) (0, a45) = (1, a46) := hw46
                have hk : eK (A 18) (F 5) i (0, F 6) = 0 := by
                  unfold eK
                  (try dsimp only)
                  rw [if_pos ⟨by omega, by omega⟩]
                have eP : pN (A 18) (F 5) FIX (0, F 6) = ((0, a43), v43) := by unfold pN; rw [hw42n, hw43n]
                have eH : pH (A 18) (F 5) (0, F 6) = ((0, a45), h45) := by
                  unfold pH
                  rw [eP]
                  (try dsimp only)
                  rw [hw44n]
                  rw [hw45n]
                have eT : tB (A 18) (F 5) i (0, F 6) = (0, a45) := by rw [(eN_0 hk).2, eH]
                have eS : eN (A 18) (F 5) i (0, F 6) = (1, a46) := by rw [(eN_0 hk).1, eT]; exact hw46n
                exact ⟨eS, fun z => absurd z (by decide)⟩
              · refine R_s (P := True) (f' := (61, [some (vR 17), some (vR 29), some (vI x), some (vI 0), some (vI (nx (A 18) (F 5) (F 6)))], [vI 1], LAY (u (u (u (u (u (u (u (u A 32 (A 32)) 34 (A 34)) 30 (wr (A 30) x 0)) 31 (wr (A 31) x v43)) 33 h3_45) 35 s5_46) 36 s6_46) 37 s7_46) (u (u F 6 a46) 7 v46), 0, 0)) hc39 2 rfl trivial ?_
                refine R_retz hc39 rfl rfl (Or.inr rfl) ⟨1, wr (A 30) x 0, wr (A 31) x v43, A 32, h3_45, A 34, s5_46, s6_46, s7_46, a46, v46, rfl, rfl, (by (try simp only [wr_len]); omega), (by (try simp only [wr_len]); omega), (by (try simp only [wr_len]); omega), (by (try simp only [wr_len]); omega), (by (try simp only [wr_len]); omega), (by (try simp only [wr_len]); omega), (by (try simp only [wr_len]); omega), (by (try simp only [wr_len]); omega), by decide, by omega, by omega, fun q hq => by rw [rd_wr_n (by omega) (by omega) (by omega)], fun q hq => by rw [rd_wr_n (by omega) (by omega) (by omega)], fun _ _ => rfl, fun q hq => by rw [kp45 q hq], fun _ _ => rfl, fun q hq => by rw [kp46_5 q hq, rd_wr_n (by omega) (by omega) (by omega)], fun q hq => by rw [kp46_6 q hq], fun q hq => by rw [kp46_7 q hq], ?_⟩
                have ehw42 : b42 = 1 := by omega
                rw [ehw42] at hw42
                have hw42n : wD (A 18) (F 5) FIX (0, F 6) = (0, a42) := hw42
                have ehw43 : b43 = 1 := by omega
                rw [ehw43] at hw43
                have hw43n : dG (A 18) (F 5) 4 (0, a42) = ((0, a43), v43) := hw43
                have ehw44 : b44 = 1 := by omega
                rw [ehw44] at hw44
                have hw44n : wD (A 18) (F 5) SPC (0, a43) = (0, a44) := hw44
                have ehw45 : b45 = 1 := by omega
                rw [ehw45] at hw45
                have hw45n : hS (A 18) (F 5) (0, a44) = ((0, a45), h45) := hw45
                have ehw46 : b46 = 1 := by omega
                rw [ehw46] at hw46
                have hw46n : tS (A 18) (F 5) (0, a45) = (0, a46) := hw46
                have hk : eK (A 18) (F 5) i (0, F 6) = 0 := by
                  unfold eK
                  (try dsimp only)
                  rw [if_pos ⟨by omega, by omega⟩]
                have eP : pN (A 18) (F 5) FIX (0, F 6) = ((0, a43), v43) := by unfold pN; rw [hw42n, hw43n]
                have eH : pH (A 18) (F 5) (0, F 6) = ((0, a45), h45) := by
                  unfold pH
                  rw [eP]
                  (try dsimp only)
                  rw [hw44n]
                  rw [hw45n]
                have eT : tB (A 18) (F 5) i (0, F 6) = (0, a45) := by rw [(eN_0 hk).2, eH]
                have eS : eN (A 18) (F 5) i (0, F 6) = (0, a46) := by rw [(eN_0 hk).1, eT]; exact hw46n
                have r0 : rd (wr (A 30) x 0) i = 0 := by rw [← ex]; exact rd_wr_s (by omega) (by (try simp only [wr_len]); omega)
                have r1 : rd (wr (A 31) x v43) i = v43 := by rw [← ex]; exact rd_wr_s (by omega) (by (try simp only [wr_len]); omega)
                exact ⟨eS, fun _ => ⟨by rw [r0, hk], fun _ => ⟨by rw [r1, eP], by rw [eH]; exact hv45 (by omega)⟩, fun z => absurd z (by rw [r0]; decide), fun z => absurd z (by rw [r0]; decide), fun z => absurd z (by rw [r0]; decide), fun _ => by
                  rw [eT]
                  have z := hv46 (by omega)
                  exact ⟨z.1, z.2.imp (fun w => by rw [z.1, w]; rfl) id⟩⟩⟩
        · refine R_s (P := True) (f' := (25, [some (vR 17), some (vR 29), some (vI x)], [vI 0], LAY (u (u (u (u (u (u (u (u A 31 (A 31)) 32 (A 32)) 33 (A 33)) 34 (A 34)) 36 (A 36)) 37 (A 37)) 35 (wr (A 35) x 0)) 30 (wr (A 30) x 0)) (u (u F 6 a43) 7 v43), 0, 0)) hc40 1 rfl trivial ?_
          refine R_retz hc40 rfl rfl (Or.inl rfl) ?_
          refine R_s (f' := (44, [some (vR 17), some (vR 29), some (vI x), some (vI 0), some (vI (nx (A 18) (F 5) (F 6)))], [vI 0], LAY (u (u (u (u (u (u (u (u A 31 (A 31)) 32 (A 32)) 33 (A 33)) 34 (A 34)) 36 (A 36)) 37 (A 37)) 35 (wr (A 35) x 0)) 30 (wr (A 30) x 0)) (u (u F 6 a43) 7 v43), 0, 0)) hc39 0 rfl trivial ?_
          refine R_if (t := 60) hc39 rfl rfl (fun (_ : 0 = 0) => ?_) (fun (z : ¬ (0 = 0)) => absurd (by decide) z)
          refine R_s (P := True) (f' := (61, [some (vR 17), some (vR 29), some (vI x), some (vI 0), some (vI (nx (A 18) (F 5) (F 6)))], [vI 0], LAY (u (u (u (u (u (u (u (u A 31 (A 31)) 32 (A 32)) 33 (A 33)) 34 (A 34)) 36 (A 36)) 37 (A 37)) 35 (wr (A 35) x 0)) 30 (wr (A 30) x 0)) (u (u F 6 a43) 7 v43), 0, 0)) hc39 1 rfl trivial ?_
          refine R_retz hc39 rfl rfl (Or.inl rfl) ⟨0, wr (A 30) x 0, A 31, A 32, A 33, A 34, wr (A 35) x 0, A 36, A 37, a43, v43, rfl, rfl, (by (try simp only [wr_len]); omega), (by (try simp only [wr_len]); omega), (by (try simp only [wr_len]); omega), (by (try simp only [wr_len]); omega), (by (try simp only [wr_len]); omega), (by (try simp only [wr_len]); omega), (by (try simp only [wr_len]); omega), (by (try simp only [wr_len]); omega), by decide, by omega, by omega, fun q hq => by rw [rd_wr_n (by omega) (by omega) (by omega)], fun _ _ => rfl, fun _ _ => rfl, fun _ _ => rfl, fun _ _ => rfl, fun q hq => by rw [rd_wr_n (by omega) (by omega) (by omega)], fun _ _ => rfl, fun _ _ => rfl, ?_⟩
          have ehw42 : b42 = 1 := by omega
          rw [ehw42] at hw42
          have hw42n : wD (A 18) (F 5) FIX (0, F 6) = (0, a42) := hw42
          have ehw43 : b43 = 0 := by omega
          rw [ehw43] at hw43
          have hw43n : dG (A 18) (F 5) 4 (0, a42) = ((1, a43), v43) := hw43
          have hk : eK (A 18) (F 5) i (0, F 6) = 0 := by
            unfold eK
            (try dsimp only)
            rw [if_pos ⟨by omega, by omega⟩]
          have eP : pN (A 18) (F 5) FIX (0, F 6) = ((1, a43), v43) := by unfold pN; rw [hw42n, hw43n]
          have eH : pH (A 18) (F 5) (0, F 6) = ((1, a43), 0) := by
            unfold pH
            rw [eP]
            (try dsimp only)
            rw [wD_f]
            rw [hS_f]
          have eT : tB (A 18) (F 5) i (0, F 6) = (1, a43) := by rw [(eN_0 hk).2, eH]
          have eS : eN (A 18) (F 5) i (0, F 6) = (1, a43) := by rw [(eN_0 hk).1, eT, tS_f]
          exact ⟨eS, fun z => absurd z (by decide)⟩
  · refine R_s (P := True) (f' := (22, [some (vR 17), some (vR 29), some (vI x), some (vI 1), none], [vR 17], LAY (u (u (u (u (u (u (u (u A 30 (A 30)) 31 (A 31)) 32 (A 32)) 33 (A 33)) 34 (A 34)) 36 (A 36)) 37 (A 37)) 35 (wr (A 35) x 0)) (u (u F 6 (F 6)) 7 (F 7)), 0, 0)) hc39 4 rfl trivial ?_
    refine R_cv hc39 rfl rfl (l_next (A := (u (u (u (u (u (u (u (u A 30 (A 30)) 31 (A 31)) 32 (A 32)) 33 (A 33)) 34 (A 34)) 36 (A 36)) 37 (A 37)) 35 (wr (A 35) x 0))) (F := (u (u F 6 (F 6)) 7 (F 7))) (LENS_u (LENS_u (LENS_u (LENS_u (LENS_u (LENS_u (LENS_u (LENS_u hL (by show (A 30).length = (A 30).length; omega)) (by show (A 31).length = (A 31).length; omega)) (by show (A 32).length = (A 32).length; omega)) (by show (A 33).length = (A 33).length; omega)) (by show (A 34).length = (A 34).length; omega)) (by show (A 36).length = (A 36).length; omega)) (by show (A 37).length = (A 37).length; omega)) (by show (wr (A 35) x 0).length = (A 35).length; simp only [wr_len])) h5 ⟨by (show 0 ≤ F 6); omega, by (show F 6 ≤ F 5); omega⟩) (fun r G9 hp9 => ?_)
    obtain ⟨e1, rfl⟩ := hp9
    have e2 : r = some (vI (nx (A 18) (F 5) (F 6))) := e1
    clear e1
    subst e2
    refine R_s (f' := (25, [some (vR 17), some (vR 29), some (vI x), some (vI 1), none], [vI (nx (A 18) (F 5) (F 6))], LAY (u (u (u (u (u (u (u (u A 30 (A 30)) 31 (A 31)) 32 (A 32)) 33 (A 33)) 34 (A 34)) 36 (A 36)) 37 (A 37)) 35 (wr (A 35) x 0)) (u (u F 6 (F 6)) 7 (F 7)), 0, 0)) hc39 0 rfl trivial ?_
    refine R_s (P := True) (f' := (31, [some (vR 17), some (vR 29), some (vI x), some (vI 1), some (vI (nx (A 18) (F 5) (F 6)))], [vI 102, vI (nx (A 18) (F 5) (F 6))], LAY (u (u (u (u (u (u (u (u A 30 (A 30)) 31 (A 31)) 32 (A 32)) 33 (A 33)) 34 (A 34)) 36 (A 36)) 37 (A 37)) 35 (wr (A 35) x 0)) (u (u F 6 (F 6)) 7 (F 7)), 0, 0)) hc39 3 rfl trivial ?_
    refine R_ic (t := 62) hc39 rfl rfl (fun (c24 : ¬ nx (A 18) (F 5) (F 6) = 102) => ?_) (fun (c24 : ¬ (¬ nx (A 18) (F 5) (F 6) = 102)) => ?_)
    · refine R_s (P := True) (f' := (66, [some (vR 17), some (vR 29), some (vI x), some (vI 1), some (vI (nx (A 18) (F 5) (F 6)))], [vI 108, vI (nx (A 18) (F 5) (F 6))], LAY (u (u (u (u (u (u (u (u A 30 (A 30)) 31 (A 31)) 32 (A 32)) 33 (A 33)) 34 (A 34)) 36 (A 36)) 37 (A 37)) 35 (wr (A 35) x 0)) (u (u F 6 (F 6)) 7 (F 7)), 0, 0)) hc39 2 rfl trivial ?_
      refine R_ic (t := 97) hc39 rfl rfl (fun (c25 : ¬ nx (A 18) (F 5) (F 6) = 108) => ?_) (fun (c25 : ¬ (¬ nx (A 18) (F 5) (F 6) = 108)) => ?_)
      · refine R_s (P := True) (f' := (101, [some (vR 17), some (vR 29), some (vI x), some (vI 1), some (vI (nx (A 18) (F 5) (F 6)))], [vI 109, vI (nx (A 18) (F 5) (F 6))], LAY (u (u (u (u (u (u (u (u A 30 (A 30)) 31 (A 31)) 32 (A 32)) 33 (A 33)) 34 (A 34)) 36 (A 36)) 37 (A 37)) 35 (wr (A 35) x 0)) (u (u F 6 (F 6)) 7 (F 7)), 0, 0)) hc39 2 rfl trivial ?_
        refine R_ic (t := 132) hc39 rfl rfl (fun (c26 : ¬ nx (A 18) (F 5) (F 6) = 109) => ?_) (fun (c26 : ¬ (¬ nx (A 18) (F 5) (F 6) = 109)) => ?_)
        · refine R_s (P := True) (f' := (135, [some (vR 17), some (vR 29), some (vI x), some (vI 1), some (vI (nx (A 18) (F 5) (F 6)))], [vI x, vR 29, vR 17], LAY (u (u (u (u (u (u (u (u A 30 (A 30)) 31 (A 31)) 32 (A 32)) 33 (A 33)) 34 (A 34)) 36 (A 36)) 37 (A 37)) 35 (wr (A 35) x 0)) (u (u F 6 (F 6)) 7 (F 7)), 0, 0)) hc39 3 rfl trivial ?_
          refine R_cv hc39 rfl rfl (l_rrest1 (A := (u (u (u (u (u (u (u (u A 30 (A 30)) 31 (A 31)) 32 (A 32)) 33 (A 33)) 34 (A 34)) 36 (A 36)) 37 (A 37)) 35 (wr (A 35) x 0))) (F := (u (u F 6 (F 6)) 7 (F 7))) (LENS_u (LENS_u (LENS_u (LENS_u (LENS_u (LENS_u (LENS_u (LENS_u hL (by show (A 30).length = (A 30).length; omega)) (by show (A 31).length = (A 31).length; omega)) (by show (A 32).length = (A 32).length; omega)) (by show (A 33).length = (A 33).length; omega)) (by show (A 34).length = (A 34).length; omega)) (by show (A 36).length = (A 36).length; omega)) (by show (A 37).length = (A 37).length; omega)) (by show (wr (A 35) x 0).length = (A 35).length; simp only [wr_len])) h5 ⟨by (show 0 ≤ F 6); omega, by (show F 6 ≤ F 5); omega⟩ ex hi) (fun r G9 hp9 => ?_)
          obtain ⟨b47, g0_47, g3_47, a47, v47, rfl, rfl, l47_0, l47_3, hb47, p47, q47, kp47_0, kp47_3, hw47, r47, hv47⟩ := hp9
          have q47 : a47 ≤ F 5 := q47
          have kp47_0 : ∀ q : Nat, q ≠ i → rd g0_47 q = rd (A 30) q := kp47_0
          have kp47_3 : ∀ q : Nat, q ≠ i → rd g3_47 q = rd (A 33) q := kp47_3
          refine R_s (f' := (138, [some (vR 17), some (vR 29), some (vI x), some (vI 1), some (vI (nx (A 18) (F 5) (F 6)))], [vI b47], LAY (u (u (u (u (u (u (u (u A 31 (A 31)) 32 (A 32)) 34 (A 34)) 36 (A 36)) 37 (A 37)) 35 (wr (A 35) x 0)) 30 g0_47) 33 g3_47) (u (u F 6 a47) 7 v47), 0, 0)) hc39 0 rfl trivial ?_
          refine R_retz hc39 rfl rfl (by omega) ⟨b47, g0_47, A 31, A 32, g3_47, A 34, wr (A 35) x 0, A 36, A 37, a47, v47, rfl, rfl, (by (try simp only [wr_len]); omega), (by (try simp only [wr_len]); omega), (by (try simp only [wr_len]); omega), (by (try simp only [wr_len]); omega), (by (try simp only [wr_len]); omega), (by (try simp only [wr_len]); omega), (by (try simp only [wr_len]); omega), (by (try simp only [wr_len]); omega), hb47, by omega, by omega, fun q hq => by rw [kp47_0 q hq], fun _ _ => rfl, fun _ _ => rfl, fun q hq => by rw [kp47_3 q hq], fun _ _ => rfl, fun q hq => by rw [rd_wr_n (by omega) (by omega) (by omega)], fun _ _ => rfl, fun _ _ => rfl, ?_⟩
          have hk : eK (A 18) (F 5) i (0, F 6) = 3 := by
            unfold eK
            (try dsimp only)
            rw [if_neg (fun z => by omega)]
            rw [if_neg (fun z => by omega)]
            rw [if_neg (fun z => by omega)]
          have eS : eN (A 18) (F 5) i (0, F 6) = (1 - b47, a47) := by rw [eN_3 hk]; exact hw47
          have r0 : rd (g0_47) i = 3 := r47
          have z5 : rd (wr (A 35) x 0) i = 0 := by rw [← ex]; exact rd_wr_s (by omega) (by omega)
          exact ⟨eS, fun y => ⟨by rw [r0, hk], fun z => absurd z (by rw [r0]; decide), fun z => absurd z (by rw [r0]; decide), fun z => absurd z (by rw [r0]; decide), fun _ => ⟨hv47 y, z5⟩, fun z => absurd r0 z⟩⟩
        · refine R_s (P := True) (f' := (105, [some (vR 17), some (vR 29), some (vI x), some (vI 1), some (vI (nx (A 18) (F 5) (F 6)))], [vI x], LAY (u (u (u (u (u (u (u (u A 30 (A 30)) 31 (A 31)) 32 (A 32)) 33 (A 33)) 34 (A 34)) 36 (A 36)) 37 (A 37)) 35 (wr (A 35) x 0)) (u (u F 6 (F 6)) 7 (F 7)), 0, 0)) hc39 1 rfl trivial ?_
          refine R_if (t := 132) hc39 rfl rfl (fun (_ : ¬ x = 0) => ?_) (fun (z : ¬ (¬ x = 0)) => absurd (show ¬ x = 0 by omega) z)
          refine R_s (P := True) (f' := (135, [some (vR 17), some (vR 29), some (vI x), some (vI 1), some (vI (nx (A 18) (F 5) (F 6)))], [vI x, vR 29, vR 17], LAY (u (u (u (u (u (u (u (u A 30 (A 30)) 31 (A 31)) 32 (A 32)) 33 (A 33)) 34 (A 34)) 36 (A 36)) 37 (A 37)) 35 (wr (A 35) x 0)) (u (u F 6 (F 6)) 7 (F 7)), 0, 0)) hc39 3 rfl trivial ?_
          refine R_cv hc39 rfl rfl (l_rrest1 (A := (u (u (u (u (u (u (u (u A 30 (A 30)) 31 (A 31)) 32 (A 32)) 33 (A 33)) 34 (A 34)) 36 (A 36)) 37 (A 37)) 35 (wr (A 35) x 0))) (F := (u (u F 6 (F 6)) 7 (F 7))) (LENS_u (LENS_u (LENS_u (LENS_u (LENS_u (LENS_u (LENS_u (LENS_u hL (by show (A 30).length = (A 30).length; omega)) (by show (A 31).length = (A 31).length; omega)) (by show (A 32).length = (A 32).length; omega)) (by show (A 33).length = (A 33).length; omega)) (by show (A 34).length = (A 34).length; omega)) (by show (A 36).length = (A 36).length; omega)) (by show (A 37).length = (A 37).length; omega)) (by show (wr (A 35) x 0).length = (A 35).length; simp only [wr_len])) h5 ⟨by (show 0 ≤ F 6); omega, by (show F 6 ≤ F 5); omega⟩ ex hi) (fun r G9 hp9 => ?_)
          obtain ⟨b48, g0_48, g3_48, a48, v48, rfl, rfl, l48_0, l48_3, hb48, p48, q48, kp48_0, kp48_3, hw48, r48, hv48⟩ := hp9
          have q48 : a48 ≤ F 5 := q48
          have kp48_0 : ∀ q : Nat, q ≠ i → rd g0_48 q = rd (A 30) q := kp48_0
          have kp48_3 : ∀ q : Nat, q ≠ i → rd g3_48 q = rd (A 33) q := kp48_3
          refine R_s (f' := (138, [some (vR 17), some (vR 29), some (vI x), some (vI 1), some (vI (nx (A 18) (F 5) (F 6)))], [vI b48], LAY (u (u (u (u (u (u (u (u A 31 (A 31)) 32 (A 32)) 34 (A 34)) 36 (A 36)) 37 (A 37)) 35 (wr (A 35) x 0)) 30 g0_48) 33 g3_48) (u (u F 6 a48) 7 v48), 0, 0)) hc39 0 rfl trivial ?_
          refine R_retz hc39 rfl rfl (by omega) ⟨b48, g0_48, A 31, A 32, g3_48, A 34, wr (A 35) x 0, A 36, A 37, a48, v48, rfl, rfl, (by (try simp only [wr_len]); omega), (by (try simp only [wr_len]); omega), (by (try simp only [wr_len]); omega), (by (try simp only [wr_len]); omega), (by (try simp only [wr_len]); omega), (by (try simp only [wr_len]); omega), (by (try simp only [wr_len]); omega), (by (try simp only [wr_len]); omega), hb48, by omega, by omega, fun q hq => by rw [kp48_0 q hq], fun _ _ => rfl, fun _ _ => rfl, fun q hq => by rw [kp48_3 q hq], fun _ _ => rfl, fun q hq => by rw [rd_wr_n (by omega) (by omega) (by omega)], fun _ _ => rfl, fun _ _ => rfl, ?_⟩
          have hk : eK (A 18) (F 5) i (0, F 6) = 3 := by
            unfold eK
            (try dsimp only)
            rw [if_neg (fun z => by omega)]
            rw [if_neg (fun z => by omega)]
            rw [if_neg (fun z => by omega)]
          have eS : eN (A 18) (F 5) i (0, F 6) = (1 - b48, a48) := by rw [eN_3 hk]; exact hw48
          have r0 : rd (g0_48) i = 3 := r48
          have z5 : rd (wr (A 35) x 0) i = 0 := by rw [← ex]; exact rd_wr_s (by omega) (by omega)
          exact ⟨eS, fun y => ⟨by rw [r0, hk], fun z => absurd z (by rw [r0]; decide), fun z => absurd z (by rw [r0]; decide), fun z => absurd z (by rw [r0]; decide), fun _ => ⟨hv48 y, z5⟩, fun z => absurd r0 z⟩⟩
      · refine R_s (P := True) (f' := (70, [some (vR 17), some (vR 29), some (vI x), some (vI 1), some (vI (nx (A 18) (F 5) (F 6)))], [vI 1], LAY (u (u (u (u (u (u (u (u A 30 (A 30)) 31 (A 31)) 32 (A 32)) 33 (A 33)) 34 (A 34)) 36 (A 36)) 37 (A 37)) 35 (wr (A 35) x 0)) (u (u F 6 (F 6)) 7 (F 7)), 0, 0)) hc39 1 rfl trivial ?_
        refine R_if (t := 97) hc39 rfl rfl (fun (_ : ¬ 1 = 0) => ?_) (fun (z : ¬ (¬ 1 = 0)) => absurd (by decide) z)
        refine R_s (P := True) (f' := (101, [some (vR 17), some (vR 29), some (vI x), some (vI 1), some (vI (nx (A 18) (F 5) (F 6)))], [vI 109, vI (nx (A 18) (F 5) (F 6))], LAY (u (u (u (u (u (u (u (u A 30 (A 30)) 31 (A 31)) 32 (A 32)) 33 (A 33)) 34 (A 34)) 36 (A 36)) 37 (A 37)) 35 (wr (A 35) x 0)) (u (u F 6 (F 6)) 7 (F 7)), 0, 0)) hc39 2 rfl trivial ?_
        refine R_ic (t := 132) hc39 rfl rfl (fun (_ : ¬ nx (A 18) (F 5) (F 6) = 109) => ?_) (fun (z : ¬ (¬ nx (A 18) (F 5) (F 6) = 109)) => absurd (show ¬ nx (A 18) (F 5) (F 6) = 109 by omega) z)
        refine R_s (P := True) (f' := (135, [some (vR 17), some (vR 29), some (vI x), some (vI 1), some (vI (nx (A 18) (F 5) (F 6)))], [vI x, vR 29, vR 17], LAY (u (u (u (u (u (u (u (u A 30 (A 30)) 31 (A 31)) 32 (A 32)) 33 (A 33)) 34 (A 34)) 36 (A 36)) 37 (A 37)) 35 (wr (A 35) x 0)) (u (u F 6 (F 6)) 7 (F 7)), 0, 0)) hc39 3 rfl trivial ?_
        refine R_cv hc39 rfl rfl (l_rrest1 (A := (u (u (u (u (u (u (u (u A 30 (A 30)) 31 (A 31)) 32 (A 32)) 33 (A 33)) 34 (A 34)) 36 (A 36)) 37 (A 37)) 35 (wr (A 35) x 0))) (F := (u (u F 6 (F 6)) 7 (F 7))) (LENS_u (LENS_u (LENS_u (LENS_u (LENS_u (LENS_u (LENS_u (LENS_u hL (by show (A 30).length = (A 30).length; omega)) (by show (A 31).length = (A 31).length; omega)) (by show (A 32).length = (A 32).length; omega)) (by show (A 33).length = (A 33).length; omega)) (by show (A 34).length = (A 34).length; omega)) (by show (A 36).length = (A 36).length; omega)) (by show (A 37).length = (A 37).length; omega)) (by show (wr (A 35) x 0).length = (A 35).length; simp only [wr_len])) h5 ⟨by (show 0 ≤ F 6); omega, by (show F 6 ≤ F 5); omega⟩ ex hi) (fun r G9 hp9 => ?_)
        obtain ⟨b49, g0_49, g3_49, a49, v49, rfl, rfl, l49_0, l49_3, hb49, p49, q49, kp49_0, kp49_3, hw49, r49, hv49⟩ := hp9
        have q49 : a49 ≤ F 5 := q49
        have kp49_0 : ∀ q : Nat, q ≠ i → rd g0_49 q = rd (A 30) q := kp49_0
        have kp49_3 : ∀ q : Nat, q ≠ i → rd g3_49 q = rd (A 33) q := kp49_3
        refine R_s (f' := (138, [some (vR 17), some (vR 29), some (vI x), some (vI 1), some (vI (nx (A 18) (F 5) (F 6)))], [vI b49], LAY (u (u (u (u (u (u (u (u A 31 (A 31)) 32 (A 32)) 34 (A 34)) 36 (A 36)) 37 (A 37)) 35 (wr (A 35) x 0)) 30 g0_49) 33 g3_49) (u (u F 6 a49) 7 v49), 0, 0)) hc39 0 rfl trivial ?_
        refine R_retz hc39 rfl rfl (by omega) ⟨b49, g0_49, A 31, A 32, g3_49, A 34, wr (A 35) x 0, A 36, A 37, a49, v49, rfl, rfl, (by (try simp only [wr_len]); omega), (by (try simp only [wr_len]); omega), (by (try simp only [wr_len]); omega), (by (try simp only [wr_len]); omega), (by (try simp only [wr_len]); omega), (by (try simp only [wr_len]); omega), (by (try simp only [wr_len]); omega), (by (try simp only [wr_len]); omega), hb49, by omega, by omega, fun q hq => by rw [kp49_0 q hq], fun _ _ => rfl, fun _ _ => rfl, fun q hq => by rw [kp49_3 q hq], fun _ _ => rfl, fun q hq => by rw [rd_wr_n (by omega) (by omega) (by omega)], fun _ _ => rfl, fun _ _ => rfl, ?_⟩
        have hk : eK (A 18) (F 5) i (0, F 6) = 3 := by
          unfold eK
          (try dsimp only)
          rw [if_neg (fun z => by omega)]
          rw [if_neg (fun z => by omega)]
          rw [if_neg (fun z => by omega)]
        have eS : eN (A 18) (F 5) i (0, F 6) = (1 - b49, a49) := by rw [eN_3 hk]; exact hw49
        have r0 : rd (g0_49) i = 3 := r49
        have z5 : rd (wr (A 35) x 0) i = 0 := by rw [← ex]; exact rd_wr_s (by omega) (by omega)
        exact ⟨eS, fun y => ⟨by rw [r0, hk], fun z => absurd z (by rw [r0]; decide), fun z => absurd z (by rw [r0]; decide), fun z => absurd z (by rw [r0]; decide), fun _ => ⟨hv49 y, z5⟩, fun z => absurd r0 z⟩⟩
    · refine R_s (P := True) (f' := (35, [some (vR 17), some (vR 29), some (vI x), some (vI 1), some (vI (nx (A 18) (F 5) (F 6)))], [vI 1], LAY (u (u (u (u (u (u (u (u A 30 (A 30)) 31 (A 31)) 32 (A 32)) 33 (A 33)) 34 (A 34)) 36 (A 36)) 37 (A 37)) 35 (wr (A 35) x 0)) (u (u F 6 (F 6)) 7 (F 7)), 0, 0)) hc39 1 rfl trivial ?_
      refine R_if (t := 62) hc39 rfl rfl (fun (_ : ¬ 1 = 0) => ?_) (fun (z : ¬ (¬ 1 = 0)) => absurd (by decide) z)
      refine R_s (P := True) (f' := (66, [some (vR 17), some (vR 29), some (vI x), some (vI 1), some (vI (nx (A 18) (F 5) (F 6)))], [vI 108, vI (nx (A 18) (F 5) (F 6))], LAY (u (u (u (u (u (u (u (u A 30 (A 30)) 31 (A 31)) 32 (A 32)) 33 (A 33)) 34 (A 34)) 36 (A 36)) 37 (A 37)) 35 (wr (A 35) x 0)) (u (u F 6 (F 6)) 7 (F 7)), 0, 0)) hc39 2 rfl trivial ?_
      refine R_ic (t := 97) hc39 rfl rfl (fun (_ : ¬ nx (A 18) (F 5) (F 6) = 108) => ?_) (fun (z : ¬ (¬ nx (A 18) (F 5) (F 6) = 108)) => absurd (show ¬ nx (A 18) (F 5) (F 6) = 108 by omega) z)
      refine R_s (P := True) (f' := (101, [some (vR 17), some (vR 29), some (vI x), some (vI 1), some (vI (nx (A 18) (F 5) (F 6)))], [vI 109, vI (nx (A 18) (F 5) (F 6))], LAY (u (u (u (u (u (u (u (u A 30 (A 30)) 31 (A 31)) 32 (A 32)) 33 (A 33)) 34 (A 34)) 36 (A 36)) 37 (A 37)) 35 (wr (A 35) x 0)) (u (u F 6 (F 6)) 7 (F 7)), 0, 0)) hc39 2 rfl trivial ?_
      refine R_ic (t := 132) hc39 rfl rfl (fun (_ : ¬ nx (A 18) (F 5) (F 6) = 109) => ?_) (fun (z : ¬ (¬ nx (A 18) (F 5) (F 6) = 109)) => absurd (show ¬ nx (A 18) (F 5) (F 6) = 109 by omega) z)
      refine R_s (P := True) (f' := (135, [some (vR 17), some (vR 29), some (vI x), some (vI 1), some (vI (nx (A 18) (F 5) (F 6)))], [vI x, vR 29, vR 17], LAY (u (u (u (u (u (u (u (u A 30 (A 30)) 31 (A 31)) 32 (A 32)) 33 (A 33)) 34 (A 34)) 36 (A 36)) 37 (A 37)) 35 (wr (A 35) x 0)) (u (u F 6 (F 6)) 7 (F 7)), 0, 0)) hc39 3 rfl trivial ?_
      refine R_cv hc39 rfl rfl (l_rrest1 (A := (u (u (u (u (u (u (u (u A 30 (A 30)) 31 (A 31)) 32 (A 32)) 33 (A 33)) 34 (A 34)) 36 (A 36)) 37 (A 37)) 35 (wr (A 35) x 0))) (F := (u (u F 6 (F 6)) 7 (F 7))) (LENS_u (LENS_u (LENS_u (LENS_u (LENS_u (LENS_u (LENS_u (LENS_u hL (by show (A 30).length = (A 30).length; omega)) (by show (A 31).length = (A 31).length; omega)) (by show (A 32).length = (A 32).length; omega)) (by show (A 33).length = (A 33).length; omega)) (by show (A 34).length = (A 34).length; omega)) (by show (A 36).length = (A 36).length; omega)) (by show (A 37).length = (A 37).length; omega)) (by show (wr (A 35) x 0).length = (A 35).length; simp only [wr_len])) h5 ⟨by (show 0 ≤ F 6); omega, by (show F 6 ≤ F 5); omega⟩ ex hi) (fun r G9 hp9 => ?_)
      obtain ⟨b50, g0_50, g3_50, a50, v50, rfl, rfl, l50_0, l50_3, hb50, p50, q50, kp50_0, kp50_3, hw50, r50, hv50⟩ := hp9
      have q50 : a50 ≤ F 5 := q50
      have kp50_0 : ∀ q : Nat, q ≠ i → rd g0_50 q = rd (A 30) q := kp50_0
      have kp50_3 : ∀ q : Nat, q ≠ i → rd g3_50 q = rd (A 33) q := kp50_3
      refine R_s (f' := (138, [some (vR 17), some (vR 29), some (vI x), some (vI 1), some (vI (nx (A 18) (F 5) (F 6)))], [vI b50], LAY (u (u (u (u (u (u (u (u A 31 (A 31)) 32 (A 32)) 34 (A 34)) 36 (A 36)) 37 (A 37)) 35 (wr (A 35) x 0)) 30 g0_50) 33 g3_50) (u (u F 6 a50) 7 v50), 0, 0)) hc39 0 rfl trivial ?_
      refine R_retz hc39 rfl rfl (by omega) ⟨b50, g0_50, A 31, A 32, g3_50, A 34, wr (A 35) x 0, A 36, A 37, a50, v50, rfl, rfl, (by (try simp only [wr_len]); omega), (by (try simp only [wr_len]); omega), (by (try simp only [wr_len]); omega), (by (try simp only [wr_len]); omega), (by (try simp only [wr_len]); omega), (by (try simp only [wr_len]); omega), (by (try simp only [wr_len]); omega), (by (try simp only [wr_len]); omega), hb50, by omega, by omega, fun q hq => by rw [kp50_0 q hq], fun _ _ => rfl, fun _ _ => rfl, fun q hq => by rw [kp50_3 q hq], fun _ _ => rfl, fun q hq => by rw [rd_wr_n (by omega) (by omega) (by omega)], fun _ _ => rfl, fun _ _ => rfl, ?_⟩
      have hk : eK (A 18) (F 5) i (0, F 6) = 3 := by
        unfold eK
        (try dsimp only)
        rw [if_neg (fun z => by omega)]
        rw [if_neg (fun z => by omega)]
        rw [if_neg (fun z => by omega)]
      have eS : eN (A 18) (F 5) i (0, F 6) = (1 - b50, a50) := by rw [eN_3 hk]; exact hw50
      have r0 : rd (g0_50) i = 3 := r50
      have z5 : rd (wr (A 35) x 0) i = 0 := by rw [← ex]; exact rd_wr_s (by omega) (by omega)
      exact ⟨eS, fun y => ⟨by rw [r0, hk], fun z => absurd z (by rw [r0]; decide), fun z => absurd z (by rw [r0]; decide), fun z => absurd z (by rw [r0]; decide), fun _ => ⟨hv50 y, z5⟩, fun z => absurd r0 z⟩⟩
theorem l_rdeed1 {A : Nat → List Int} {F : Nat → Int} (hL : LENS A) (h5 : 0 ≤ F 5 ∧ F 5 ≤ 120) : R 38 (0, L0 38 [vR 17, vR 29], [], LAY A F, 0, 0) (fun r G => ∃ (c : Int) (q0 q1 q2 q3 q4 q5 q6 q7 : List Int) (a v e : Int), r = some (vI c) ∧ G = LAY (u (u (u (u (u (u (u (u A 30 q0) 31 q1) 32 q2) 33 q3) 34 q4) 35 q5) 36 q6) 37 q7) (u (u (u F 6 a) 7 v) 9 e) ∧ q0.length = 6 ∧ q1.length = 6 ∧ q2.length = 6 ∧ q3.length = 6 ∧ q4.length = 6 ∧ q5.length = 6 ∧ q6.length = 6 ∧ q7.length = 6 ∧ (0 ≤ a ∧ a ≤ F 5) ∧ ((c = 0 ∧ fAIL (A 18) (F 5) a) ∨ (c = 1 ∧ ∃ n : Nat, e = n ∧ sUCC (A 18) (F 5) n ∧ ∀ j : Nat, j < n → eV (A 18) (F 5) j (sT (A 18) (F 5) j) (rd q0 j) (rd q1 j) (rd q2 j) (rd q3 j) (rd q4 j) (rd q5 j) (rd q6 j) (rd q7 j)))) := by
  have d0 : (A 30).length = 6 := hL 30 (by decide)
  have d1 : (A 31).length = 6 := hL 31 (by decide)
  have d2 : (A 32).length = 6 := hL 32 (by decide)
  have d3 : (A 33).length = 6 := hL 33 (by decide)
  have d4 : (A 34).length = 6 := hL 34 (by decide)
  have d5 : (A 35).length = 6 := hL 35 (by decide)
  have d6 : (A 36).length = 6 := hL 36 (by decide)
  have d7 : (A 37).length = 6 := hL 37 (by decide)
  have lp : ∀ (m i : Nat) (x : Int) (m0 : List Int) (m1 : List Int) (m2 : List Int) (m3 : List Int) (m4 : List Int) (m5 : List Int) (m6 : List Int) (m7 : List Int) (pl : Int) (v : Int) (e : Int), x = (i : Int) → m0.length = 6 → m1.length = 6 → m2.length = 6 → m3.length = 6 → m4.length = 6 → m5.length = 6 → m6.length = 6 → m7.length = 6 → 0 ≤ pl ∧ pl ≤ F 5 → sT (A 18) (F 5) i = (0, pl) → gO (A 18) (F 5) i → (∀ j : Nat, j < i → eV (A 18) (F 5) j (sT (A 18) (F 5) j) (rd m0 j) (rd m1 j) (rd m2 j) (rd m3 j) (rd m4 j) (rd m5 j) (rd m6 j) (rd m7 j)) → i ≤ 6 → 6 + 1 ≤ i + m → R 38 (7, [some (vR 17), some (vR 29), some (vI x)], [], LAY (u (u (u (u (u (u (u (u A 30 m0) 31 m1) 32 m2) 33 m3) 34 m4) 35 m5) 36 m6) 37 m7) (u (u (u F 6 pl) 7 v) 9 e), 0, 0) (fun r G => ∃ (c : Int) (q0 q1 q2 q3 q4 q5 q6 q7 : List Int) (a v e : Int), r = some (vI c) ∧ G = LAY (u (u (u (u (u (u (u (u A 30 q0) 31 q1) 32 q2) 33 q3) 34 q4) 35 q5) 36 q6) 37 q7) (u (u (u F 6 a) 7 v) 9 e) ∧ q0.length = 6 ∧ q1.length = 6 ∧ q2.length = 6 ∧ q3.length = 6 ∧ q4.length = 6 ∧ q5.length = 6 ∧ q6.length = 6 ∧ q7.length = 6 ∧ (0 ≤ a ∧ a ≤ F 5) ∧ ((c = 0 ∧ fAIL (A 18) (F 5) a) ∨ (c = 1 ∧ ∃ n : Nat, e = n ∧ sUCC (A 18) (F 5) n ∧ ∀ j : Nat, j < n → eV (A 18) (F 5) j (sT (A 18) (F 5) j) (rd q0 j) (rd q1 j) (rd q2 j) (rd q3 j) (rd q4 j) (rd q5 j) (rd q6 j) (rd q7 j)))) := by
    intro m
    induction m with
    | zero =>
      intro i x m0 m1 m2 m3 m4 m5 m6 m7 pl v e ex lm0 lm1 lm2 lm3 lm4 lm5 lm6 lm7 hp hs hg hv hi hm
      exact absurd hm (by omega)
    | succ m ih =>
      intro i x m0 m1 m2 m3 m4 m5 m6 m7 pl v e ex lm0 lm1 lm2 lm3 lm4 lm5 lm6 lm7 hp hs hg hv hi hm
      refine R_s (P := True) (f' := (10, [some (vR 17), some (vR 29), some (vI x)], [vI 6, vI x], LAY (u (u (u (u (u (u (u (u A 30 m0) 31 m1) 32 m2) 33 m3) 34 m4) 35 m5) 36 m6) 37 m7) (u (u (u F 6 pl) 7 v) 9 e), 0, 0)) hc38 2 rfl trivial ?_
      refine R_ic (t := 75) hc38 rfl rfl (fun (c1 : 6 ≤ x) => ?_) (fun (c1 : ¬ (6 ≤ x)) => ?_)
      · refine R_s (P := True) (f' := (76, [some (vR 17), some (vR 29), some (vI x)], [vI 0], LAY (u (u (u (u (u (u (u (u A 30 m0) 31 m1) 32 m2) 33 m3) 34 m4) 35 m5) 36 m6) 37 m7) (u (u (u F 6 pl) 7 v) 9 e), 0, 0)) hc38 1 rfl trivial ?_
        refine R_retz hc38 rfl rfl (Or.inl rfl) ⟨0, m0, m1, m2, m3, m4, m5, m6, m7, pl, v, e, rfl, rfl, by omega, by omega, by omega, by omega, by omega, by omega, by omega, by omega, ⟨by omega, by omega⟩, ?_⟩
        exfalso
        have z := hg 5 (by omega)
        exact z.2.1 eK_5
      · refine R_s (P := True) (f' := (16, [some (vR 17), some (vR 29), some (vI x)], [vI x, vR 29, vR 17], LAY (u (u (u (u (u (u (u (u A 30 m0) 31 m1) 32 m2) 33 m3) 34 m4) 35 m5) 36 m6) 37 m7) (u (u (u F 6 pl) 7 v) 9 e), 0, 0)) hc38 3 rfl trivial ?_
        refine R_cv hc38 rfl rfl (l_rend1 (A := (u (u (u (u (u (u (u (u A 30 m0) 31 m1) 32 m2) 33 m3) 34 m4) 35 m5) 36 m6) 37 m7)) (F := (u (u (u F 6 pl) 7 v) 9 e)) (LENS_u (LENS_u (LENS_u (LENS_u (LENS_u (LENS_u (LENS_u (LENS_u hL (by show m0.length = (A 30).length; omega)) (by show m1.length = (A 31).length; omega)) (by show m2.length = (A 32).length; omega)) (by show m3.length = (A 33).length; omega)) (by show m4.length = (A 34).length; omega)) (by show m5.length = (A 35).length; omega)) (by show m6.length = (A 36).length; omega)) (by show m7.length = (A 37).length; omega)) h5 ⟨(show 0 ≤ pl by omega), (show pl ≤ F 5 by omega)⟩ ex (by omega)) (fun r G9 hp9 => ?_)
        obtain ⟨b2, n0, n1, n2, n3, n4, n5, n6, n7, a2, v2, rfl, rfl, ln0, ln1, ln2, ln3, ln4, ln5, ln6, ln7, hb2, p2, q2, kp0, kp1, kp2, kp3, kp4, kp5, kp6, kp7, hE, hV⟩ := hp9
        have q2 : a2 ≤ F 5 := q2
        have hE : eN (A 18) (F 5) i (0, pl) = (1 - b2, a2) := hE
        rw [← hs] at hE
        have hV : b2 = 1 → eV (A 18) (F 5) i (sT (A 18) (F 5) i) (rd n0 i) (rd n1 i) (rd n2 i) (rd n3 i) (rd n4 i) (rd n5 i) (rd n6 i) (rd n7 i) := by
          rw [hs]
          exact hV
        have hk0 : b2 = 1 → rd n0 x = eK (A 18) (F 5) i (sT (A 18) (F 5) i) := fun q => by
          rw [ex]
          exact (hV q).1
        have kp0 : ∀ q : Nat, q ≠ i → rd n0 q = rd m0 q := kp0
        have kp1 : ∀ q : Nat, q ≠ i → rd n1 q = rd m1 q := kp1
        have kp2 : ∀ q : Nat, q ≠ i → rd n2 q = rd m2 q := kp2
        have kp3 : ∀ q : Nat, q ≠ i → rd n3 q = rd m3 q := kp3
        have kp4 : ∀ q : Nat, q ≠ i → rd n4 q = rd m4 q := kp4
        have kp5 : ∀ q : Nat, q ≠ i → rd n5 q = rd m5 q := kp5
        have kp6 : ∀ q : Nat, q ≠ i → rd n6 q = rd m6 q := kp6
        have kp7 : ∀ q : Nat, q ≠ i → rd n7 q = rd m7 q := kp7
        refine R_s (f' := (19, [some (vR 17), some (vR 29), some (vI x)], [vI b2], LAY (u (u (u (u (u (u (u (u A 30 n0) 31 n1) 32 n2) 33 n3) 34 n4) 35 n5) 36 n6) 37 n7) (u (u (u F 9 e) 6 a2) 7 v2), 0, 0)) hc38 0 rfl trivial ?_
        refine R_if (t := 24) hc38 rfl rfl (fun (c2 : ¬ b2 = 0) => ?_) (fun (c2 : ¬ (¬ b2 = 0)) => ?_)
        · refine R_s (P := (0 ≤ x ∧ x < ((n0).length : Int)) ∧ True) (f' := (31, [some (vR 17), some (vR 29), some (vI x)], [vI 3, vI (rd n0 x)], LAY (u (u (u (u (u (u (u (u A 30 n0) 31 n1) 32 n2) 33 n3) 34 n4) 35 n5) 36 n6) 37 n7) (u (u (u F 9 e) 6 a2) 7 v2), 0, 0)) hc38 5 rfl ⟨⟨by omega, by omega⟩, trivial⟩ ?_
          refine R_ic (t := 58) hc38 rfl rfl (fun (c3 : ¬ rd n0 x = 3) => ?_) (fun (c3 : ¬ (¬ rd n0 x = 3)) => ?_)
          · refine R_s (P := True) (f' := (61, [some (vR 17), some (vR 29), some (vI x)], [vS 13, vR 17], LAY (u (u (u (u (u (u (u (u A 30 n0) 31 n1) 32 n2) 33 n3) 34 n4) 35 n5) 36 n6) 37 n7) (u (u (u F 9 e) 6 a2) 7 v2), 0, 0)) hc38 2 rfl trivial ?_
            refine R_cv hc38 rfl rfl (l_word13 (A := (u (u (u (u (u (u (u (u A 30 n0) 31 n1) 32 n2) 33 n3) 34 n4) 35 n5) 36 n6) 37 n7)) (F := (u (u (u F 9 e) 6 a2) 7 v2)) (LENS_u (LENS_u (LENS_u (LENS_u (LENS_u (LENS_u (LENS_u (LENS_u hL (by show n0.length = (A 30).length; omega)) (by show n1.length = (A 31).length; omega)) (by show n2.length = (A 32).length; omega)) (by show n3.length = (A 33).length; omega)) (by show n4.length = (A 34).length; omega)) (by show n5.length = (A 35).length; omega)) (by show n6.length = (A 36).length; omega)) (by show n7.length = (A 37).length; omega)) h5 ⟨(show 0 ≤ a2 by omega), (show a2 ≤ F 5 by omega)⟩) (fun r G9 hp9 => ?_)
            obtain ⟨b3, a3, rfl, rfl, hb3, hW, p3, q3⟩ := hp9
            have q3 : a3 ≤ F 5 := q3
            have hW : wD (A 18) (F 5) SEMI (0, a2) = (1 - b3, a3) := hW
            have hE0 : eN (A 18) (F 5) i (sT (A 18) (F 5) i) = (0, a2) := by rw [hE, show b2 = 1 by omega]; rfl
            have hS : sT (A 18) (F 5) (i + 1) = (1 - b3, a3) := by
              show wD (A 18) (F 5) SEMI (eN (A 18) (F 5) i (sT (A 18) (F 5) i)) = _
              rw [hE0]
              exact hW
            refine R_s (f' := (64, [some (vR 17), some (vR 29), some (vI x)], [vI b3], LAY (u (u (u (u (u (u (u (u A 30 n0) 31 n1) 32 n2) 33 n3) 34 n4) 35 n5) 36 n6) 37 n7) (u (u (u F 9 e) 7 v2) 6 a3), 0, 0)) hc38 0 rfl trivial ?_
            refine R_if (t := 69) hc38 rfl rfl (fun (c4 : ¬ b3 = 0) => ?_) (fun (c4 : ¬ (¬ b3 = 0)) => ?_)
            · refine R_s (P := inI (x + 1) ∧ True) (f' := (7, [some (vR 17), some (vR 29), some (vI (x + 1))], [], LAY (u (u (u (u (u (u (u (u A 30 n0) 31 n1) 32 n2) 33 n3) 34 n4) 35 n5) 36 n6) 37 n7) (u (u (u F 9 e) 7 v2) 6 a3), 0, 0)) hc38 2 rfl ⟨⟨by omega, by omega⟩, trivial⟩ ?_
              refine R_s (P := True) (f' := (7, [some (vR 17), some (vR 29), some (vI (x + 1))], [], LAY (u (u (u (u (u (u (u (u A 30 n0) 31 n1) 32 n2) 33 n3) 34 n4) 35 n5) 36 n6) 37 n7) (u (u (u F 6 a3) 7 v2) 9 e), 0, 0)) hc38 0 rfl trivial ?_
              have hS0 : sT (A 18) (F 5) (i + 1) = (0, a3) := by rw [hS, show b3 = 1 by omega]; rfl
              refine ih (i + 1) _ _ _ _ _ _ _ _ _ _ _ _ (by omega) ln0 ln1 ln2 ln3 ln4 ln5 ln6 ln7 ⟨p3, q3⟩ hS0 (fun j hj => ?_) (fun j hj => ?_) (by omega) (by omega)
              · by_cases q : j = i
                · rw [q]
                  exact ⟨by rw [hE0], by rw [← hk0 (by omega)]; omega, by rw [hS0]⟩
                · exact hg j (by omega)
              · by_cases q : j = i
                · rw [q]
                  exact hV (by omega)
                · rw [kp0 j q, kp1 j q, kp2 j q, kp3 j q, kp4 j q, kp5 j q, kp6 j q, kp7 j q]
                  exact hv j (by omega)
            · refine R_s (P := True) (f' := (68, [some (vR 17), some (vR 29), some (vI x)], [vI 0], LAY (u (u (u (u (u (u (u (u A 30 n0) 31 n1) 32 n2) 33 n3) 34 n4) 35 n5) 36 n6) 37 n7) (u (u (u F 9 e) 7 v2) 6 a3), 0, 0)) hc38 1 rfl trivial ?_
              refine R_retz hc38 rfl rfl (Or.inl rfl) ⟨0, n0, n1, n2, n3, n4, n5, n6, n7, a3, v2, e, rfl, rfl, by omega, by omega, by omega, by omega, by omega, by omega, by omega, by omega, ⟨by omega, by omega⟩, ?_⟩
              exact .inl ⟨rfl, i, by omega, hg, .inr (.inr ⟨by rw [hE0], by rw [← hk0 (by omega)]; omega, by rw [hS]; (try dsimp only); omega, by rw [hS]⟩)⟩
          · refine R_s (P := inI (x + 1) ∧ True) (f' := (49, [some (vR 17), some (vR 29), some (vI x)], [vI (F 5), vI a2], LAY (u (u (u (u (u (u (u (u A 30 n0) 31 n1) 32 n2) 33 n3) 34 n4) 35 n5) 36 n6) 37 n7) (u (u (u F 6 a2) 7 v2) 9 (x + 1)), 0, 0)) hc38 9 rfl ⟨⟨by omega, by omega⟩, trivial⟩ ?_
            refine R_ic (t := 56) hc38 rfl rfl (fun (c5 : ¬ a2 = F 5) => ?_) (fun (c5 : ¬ (¬ a2 = F 5)) => ?_)
            · refine R_s (P := True) (f' := (57, [some (vR 17), some (vR 29), some (vI x)], [vI 0], LAY (u (u (u (u (u (u (u (u A 30 n0) 31 n1) 32 n2) 33 n3) 34 n4) 35 n5) 36 n6) 37 n7) (u (u (u F 6 a2) 7 v2) 9 (x + 1)), 0, 0)) hc38 1 rfl trivial ?_
              refine R_retz hc38 rfl rfl (Or.inl rfl) ⟨0, n0, n1, n2, n3, n4, n5, n6, n7, a2, v2, x + 1, rfl, rfl, by omega, by omega, by omega, by omega, by omega, by omega, by omega, by omega, ⟨by omega, by omega⟩, ?_⟩
              have hE0 : eN (A 18) (F 5) i (sT (A 18) (F 5) i) = (0, a2) := by rw [hE, show b2 = 1 by omega]; rfl
              have hK : eK (A 18) (F 5) i (sT (A 18) (F 5) i) = 3 := by rw [← hk0 (by omega)]; omega
              exact .inl ⟨rfl, i, by omega, hg, .inr (.inl ⟨by rw [hE0], hK, by rw [hE0]; (try dsimp only); omega, by rw [hE0]⟩)⟩
            · refine R_s (P := True) (f' := (57, [some (vR 17), some (vR 29), some (vI x)], [vI 1], LAY (u (u (u (u (u (u (u (u A 30 n0) 31 n1) 32 n2) 33 n3) 34 n4) 35 n5) 36 n6) 37 n7) (u (u (u F 6 a2) 7 v2) 9 (x + 1)), 0, 0)) hc38 2 rfl trivial ?_
              refine R_retz hc38 rfl rfl (Or.inr rfl) ⟨1, n0, n1, n2, n3, n4, n5, n6, n7, a2, v2, x + 1, rfl, rfl, by omega, by omega, by omega, by omega, by omega, by omega, by omega, by omega, ⟨by omega, by omega⟩, ?_⟩
              have hE0 : eN (A 18) (F 5) i (sT (A 18) (F 5) i) = (0, a2) := by rw [hE, show b2 = 1 by omega]; rfl
              have hK : eK (A 18) (F 5) i (sT (A 18) (F 5) i) = 3 := by rw [← hk0 (by omega)]; omega
              refine .inr ⟨rfl, i + 1, by omega, ⟨i, rfl, by omega, hg, by rw [hE0, show a2 = F 5 by omega], hK⟩, fun j hj => ?_⟩
              by_cases q : j = i
              · rw [q]
                exact hV (by omega)
              · rw [kp0 j q, kp1 j q, kp2 j q, kp3 j q, kp4 j q, kp5 j q, kp6 j q, kp7 j q]
                exact hv j (by omega)
        · refine R_s (P := True) (f' := (23, [some (vR 17), some (vR 29), some (vI x)], [vI 0], LAY (u (u (u (u (u (u (u (u A 30 n0) 31 n1) 32 n2) 33 n3) 34 n4) 35 n5) 36 n6) 37 n7) (u (u (u F 9 e) 6 a2) 7 v2), 0, 0)) hc38 1 rfl trivial ?_
          refine R_retz hc38 rfl rfl (Or.inl rfl) ⟨0, n0, n1, n2, n3, n4, n5, n6, n7, a2, v2, e, rfl, rfl, by omega, by omega, by omega, by omega, by omega, by omega, by omega, by omega, ⟨by omega, by omega⟩, ?_⟩
          exact .inl ⟨rfl, i, by omega, hg, .inl ⟨by rw [hE]; (try dsimp only); omega, by rw [hE]⟩⟩
  refine R_s (P := True) (f' := (7, [some (vR 17), some (vR 29), some (vI 0)], [], LAY (u (u (u (u (u (u (u (u A 30 (A 30)) 31 (A 31)) 32 (A 32)) 33 (A 33)) 34 (A 34)) 35 (A 35)) 36 (A 36)) 37 (A 37)) (u (u (u F 6 0) 7 (F 7)) 9 (F 9)), 0, 0)) hc38 5 rfl trivial ?_
  exact lp 7 0 _ _ _ _ _ _ _ _ _ _ _ _ rfl d0 d1 d2 d3 d4 d5 d6 d7 ⟨by decide, h5.1⟩ rfl (fun j hj => absurd hj (by omega)) (fun j hj => absurd hj (by omega)) (by omega) (by omega)
