theorem l_mtest {A : Nat → List Int} {F : Nat → Int} (h24 : 0 ≤ F 24 ∧ F 24 ≤ 120) (h25 : 0 ≤ F 25 ∧ F 25 ≤ F 24) (h106 : (A 106).length = 120) (h100 : (A 100).length = 288) {a : Int} (ha : 0 ≤ a ∧ a + 8 ≤ 288) (h26 : F 26 = 0 ∨ F 26 = 1) : R 133 (0, L0 133 [vR 88, vI a], [], LAY A F, 0, 0) (fun r G => r = none ∧ ∃ (l : List Int) (f at1 v : Int), G = LAY (u A 100 l) (u (u (u F 26 f) 25 at1) 27 v) ∧ l.length = 288 ∧ (f = 0 ∨ f = 1) ∧ 0 ≤ at1 ∧ at1 ≤ F 24 ∧ (∀ q : Int, 0 ≤ q → (q < a + 5 ∨ a + 7 < q) → rd l q = rd (A 100) q) ∧ tS (A 106) (F 24) (F 26, F 25) = (f, at1) ∧ (f = 0 → rd l (a + 5) = tF (A 106) (F 24) (F 26, F 25) ∧ (tF (A 106) (F 24) (F 26, F 25) = -1 ∨ (rd l (a + 6) = tG (A 106) (F 24) (F 26, F 25) ∧ rd l (a + 7) = tH (A 106) (F 24) (F 26, F 25))))) := by
  refine R_s (P := True) (f' := (0, [some (vR 88), some (vI a), none, none], [], LAY (u A 100 (A 100)) (u (u (u F 26 (F 26)) 25 (F 25)) 27 (F 27)), 0, 0)) hc133 0 rfl trivial ?_
  refine R_s (P := inI (a + 5) ∧ (0 ≤ a + 5 ∧ a + 5 < ((A 100).length : Int)) ∧ True) (f' := (13, [some (vR 88), some (vI a), none, none], [vI (F 26)], LAY (u A 100 (wr (A 100) (a + 5) (-1))) (u (u (u F 26 (F 26)) 25 (F 25)) 27 (F 27)), 0, 0)) hc133 9 rfl ⟨⟨by omega, by omega⟩, ⟨by omega, by omega⟩, trivial⟩ ?_
  refine R_if (t := 25) hc133 rfl rfl (fun (c1 : ¬ F 26 = 0) => ?_) (fun (c1 : ¬ (¬ F 26 = 0)) => ?_)
  · refine R_retv hc133 rfl rfl ⟨rfl, wr (A 100) (a + 5) (-1), F 26, F 25, F 27, rfl, (by (try simp only [wr_len]); omega), (by omega), (by omega), (by omega), fun q hq hq9 => by rw [rd_wr_n (by omega) (by omega) (by omega)], ?_, fun z => ⟨?_, .inl ?_⟩⟩
    · unfold tS
      rw [if_neg (fun z => by have := z.1; have := z.2; (try dsimp only at *); omega)]
    all_goals have e9 : tF (A 106) (F 24) (F 26, F 25) = -1 := by (unfold tF; rw [if_neg (fun z => by have := z.1; have := z.2; (try dsimp only at *); omega)])
    · rw [e9, rd_wr_s (by omega) (by omega)]
    · exact e9
  · refine R_s (P := True) (f' := (17, [some (vR 88), some (vI a), none, none], [vR 88], LAY (u A 100 (wr (A 100) (a + 5) (-1))) (u (u (u F 26 (F 26)) 25 (F 25)) 27 (F 27)), 0, 0)) hc133 1 rfl trivial ?_
    refine R_cv hc133 rfl rfl (l_here (A := (u A 100 (wr (A 100) (a + 5) (-1)))) (F := (u (u (u F 26 (F 26)) 25 (F 25)) 27 (F 27))) h24 ⟨by (show 0 ≤ F 25); omega, by (show F 25 ≤ F 24); omega⟩ h106) (fun r G9 hp9 => ?_)
    obtain ⟨e1, rfl⟩ := hp9
    have e2 : r = some (vI (nx (A 106) (F 24) (F 25))) := e1
    clear e1
    subst e2
    refine R_s (f' := (20, [some (vR 88), some (vI a), none, none], [vI (nx (A 106) (F 24) (F 25))], LAY (u A 100 (wr (A 100) (a + 5) (-1))) (u (u (u F 26 (F 26)) 25 (F 25)) 27 (F 27)), 0, 0)) hc133 0 rfl trivial ?_
    refine R_s (P := True) (f' := (22, [some (vR 88), some (vI a), none, none], [vI 32, vI (nx (A 106) (F 24) (F 25))], LAY (u A 100 (wr (A 100) (a + 5) (-1))) (u (u (u F 26 (F 26)) 25 (F 25)) 27 (F 27)), 0, 0)) hc133 1 rfl trivial ?_
    refine R_ic (t := 26) hc133 rfl rfl (fun (c2 : nx (A 106) (F 24) (F 25) = 32) => ?_) (fun (c2 : ¬ (nx (A 106) (F 24) (F 25) = 32)) => ?_)
    · refine R_s (P := True) (f' := (29, [some (vR 88), some (vI a), none, none], [vI 32, vR 88], LAY (u A 100 (wr (A 100) (a + 5) (-1))) (u (u (u F 26 (F 26)) 25 (F 25)) 27 (F 27)), 0, 0)) hc133 2 rfl trivial ?_
      refine R_cv hc133 rfl rfl (l_eats (A := (u A 100 (wr (A 100) (a + 5) (-1)))) (F := (u (u (u F 26 (F 26)) 25 (F 25)) 27 (F 27))) h24 ⟨by (show 0 ≤ F 25); omega, by (show F 25 ≤ F 24); omega⟩ h106 (by show F 26 = 0 ∨ F 26 = 1; omega) (c := 32) (by decide)) (fun r G9 hp9 => ?_)
      obtain ⟨rfl, f1, a1, rfl, hf1, hw1, p1, q1⟩ := hp9
      have q1 : a1 ≤ F 24 := q1
      have hw1 : eE (A 106) (F 24) 32 (F 26, F 25) = (f1, a1) := hw1
      refine R_s (f' := (32, [some (vR 88), some (vI a), none, none], [], LAY (u A 100 (wr (A 100) (a + 5) (-1))) (u (u (u F 27 (F 27)) 26 f1) 25 a1), 0, 0)) hc133 0 rfl trivial ?_
      refine R_s (P := True) (f' := (39, [some (vR 88), some (vI a), none, none], [vI 32, vI 102, vI 105, vR 88], LAY (u A 100 (wr (A 100) (a + 5) (-1))) (u (u (u F 27 (F 27)) 26 f1) 25 a1), 0, 0)) hc133 4 rfl trivial ?_
      refine R_cv hc133 rfl rfl ?_ (fun r G h => h)
      refine R_s (P := True) (f' := (2, [some (vR 88), some (vI 105), some (vI 102), some (vI 32)], [vI 105, vR 88], LAY (u A 100 (wr (A 100) (a + 5) (-1))) (u (u (u F 27 (F 27)) 26 f1) 25 a1), 0, 0)) hc129 2 rfl trivial ?_
      refine R_cv hc129 rfl rfl (l_eats (A := (u A 100 (wr (A 100) (a + 5) (-1)))) (F := (u (u (u F 27 (F 27)) 26 f1) 25 a1)) h24 ⟨by (show 0 ≤ a1); omega, by (show a1 ≤ F 24); omega⟩ h106 (by show f1 = 0 ∨ f1 = 1; omega) (c := 105) (by decide)) (fun r G9 hp9 => ?_)
      obtain ⟨rfl, f2, a2, rfl, hf2, hw2, p2, q2⟩ := hp9
      have q2 : a2 ≤ F 24 := q2
      have hw2 : eE (A 106) (F 24) 105 (f1, a1) = (f2, a2) := hw2
      refine R_s (f' := (5, [some (vR 88), some (vI 105), some (vI 102), some (vI 32)], [], LAY (u A 100 (wr (A 100) (a + 5) (-1))) (u (u (u F 27 (F 27)) 26 f2) 25 a2), 0, 0)) hc129 0 rfl trivial ?_
      refine R_s (P := True) (f' := (7, [some (vR 88), some (vI 105), some (vI 102), some (vI 32)], [vI 102, vR 88], LAY (u A 100 (wr (A 100) (a + 5) (-1))) (u (u (u F 27 (F 27)) 26 f2) 25 a2), 0, 0)) hc129 2 rfl trivial ?_
      refine R_cv hc129 rfl rfl (l_eats (A := (u A 100 (wr (A 100) (a + 5) (-1)))) (F := (u (u (u F 27 (F 27)) 26 f2) 25 a2)) h24 ⟨by (show 0 ≤ a2); omega, by (show a2 ≤ F 24); omega⟩ h106 (by show f2 = 0 ∨ f2 = 1; omega) (c := 102) (by decide)) (fun r G9 hp9 => ?_)
      obtain ⟨rfl, f3, a3, rfl, hf3, hw3, p3, q3⟩ := hp9
      have q3 : a3 ≤ F 24 := q3
      have hw3 : eE (A 106) (F 24) 102 (f2, a2) = (f3, a3) := hw3
      refine R_s (f' := (10, [some (vR 88), some (vI 105), some (vI 102), some (vI 32)], [], LAY (u A 100 (wr (A 100) (a + 5) (-1))) (u (u (u F 27 (F 27)) 26 f3) 25 a3), 0, 0)) hc129 0 rfl trivial ?_
      refine R_s (P := True) (f' := (12, [some (vR 88), some (vI 105), some (vI 102), some (vI 32)], [vI 32, vR 88], LAY (u A 100 (wr (A 100) (a + 5) (-1))) (u (u (u F 27 (F 27)) 26 f3) 25 a3), 0, 0)) hc129 2 rfl trivial ?_
      refine R_cv hc129 rfl rfl (l_eats (A := (u A 100 (wr (A 100) (a + 5) (-1)))) (F := (u (u (u F 27 (F 27)) 26 f3) 25 a3)) h24 ⟨by (show 0 ≤ a3); omega, by (show a3 ≤ F 24); omega⟩ h106 (by show f3 = 0 ∨ f3 = 1; omega) (c := 32) (by decide)) (fun r G9 hp9 => ?_)
      obtain ⟨rfl, f4, a4, rfl, hf4, hw4, p4, q4⟩ := hp9
      have q4 : a4 ≤ F 24 := q4
      have hw4 : eE (A 106) (F 24) 32 (f3, a3) = (f4, a4) := hw4
      refine R_s (f' := (15, [some (vR 88), some (vI 105), some (vI 102), some (vI 32)], [], LAY (u A 100 (wr (A 100) (a + 5) (-1))) (u (u (u F 27 (F 27)) 26 f4) 25 a4), 0, 0)) hc129 0 rfl trivial ?_
      refine R_retv hc129 rfl rfl ?_
      refine R_s (f' := (42, [some (vR 88), some (vI a), none, none], [], LAY (u A 100 (wr (A 100) (a + 5) (-1))) (u (u (u F 27 (F 27)) 26 f4) 25 a4), 0, 0)) hc133 0 rfl trivial ?_
      refine R_s (P := True) (f' := (46, [some (vR 88), some (vI a), none, none], [vI f4], LAY (u A 100 (wr (A 100) (a + 5) (-1))) (u (u (u F 27 (F 27)) 26 f4) 25 a4), 0, 0)) hc133 2 rfl trivial ?_
      refine R_if (t := 53) hc133 rfl rfl (fun (c3 : f4 = 0) => ?_) (fun (c3 : ¬ (f4 = 0)) => ?_)
      · refine R_s (P := True) (f' := (54, [some (vR 88), some (vI a), none, none], [vR 88], LAY (u A 100 (wr (A 100) (a + 5) (-1))) (u (u (u F 27 (F 27)) 26 f4) 25 a4), 0, 0)) hc133 1 rfl trivial ?_
        refine R_cv hc133 rfl rfl ?_ (fun r G h => h)
        refine R_s (P := True) (f' := (1, [some (vR 88)], [vR 88], LAY (u A 100 (wr (A 100) (a + 5) (-1))) (u (u (u F 27 (F 27)) 26 f4) 25 a4), 0, 0)) hc132 1 rfl trivial ?_
        refine R_cv hc132 rfl rfl (l_here (A := (u A 100 (wr (A 100) (a + 5) (-1)))) (F := (u (u (u F 27 (F 27)) 26 f4) 25 a4)) h24 ⟨by (show 0 ≤ a4); omega, by (show a4 ≤ F 24); omega⟩ h106) (fun r G9 hp9 => ?_)
        obtain ⟨e1, rfl⟩ := hp9
        have e2 : r = some (vI (nx (A 106) (F 24) (a4))) := e1
        clear e1
        subst e2
        refine R_s (f' := (4, [some (vR 88)], [vI (nx (A 106) (F 24) (a4))], LAY (u A 100 (wr (A 100) (a + 5) (-1))) (u (u (u F 27 (F 27)) 26 f4) 25 a4), 0, 0)) hc132 0 rfl trivial ?_
        refine R_s (P := True) (f' := (6, [some (vR 88)], [vI 97, vI (nx (A 106) (F 24) (a4))], LAY (u A 100 (wr (A 100) (a + 5) (-1))) (u (u (u F 27 (F 27)) 26 f4) 25 a4), 0, 0)) hc132 1 rfl trivial ?_
        refine R_ic (t := 33) hc132 rfl rfl (fun (c4 : ¬ nx (A 106) (F 24) (a4) = 97) => ?_) (fun (c4 : ¬ (¬ nx (A 106) (F 24) (a4) = 97)) => ?_)
        · refine R_s (P := True) (f' := (36, [some (vR 88)], [vI 121, vR 88], LAY (u A 100 (wr (A 100) (a + 5) (-1))) (u (u (u F 27 (F 27)) 26 f4) 25 a4), 0, 0)) hc132 2 rfl trivial ?_
          refine R_cv hc132 rfl rfl (l_eats (A := (u A 100 (wr (A 100) (a + 5) (-1)))) (F := (u (u (u F 27 (F 27)) 26 f4) 25 a4)) h24 ⟨by (show 0 ≤ a4); omega, by (show a4 ≤ F 24); omega⟩ h106 (by show f4 = 0 ∨ f4 = 1; omega) (c := 121) (by decide)) (fun r G9 hp9 => ?_)
          obtain ⟨rfl, f5, a5, rfl, hf5, hw5, p5, q5⟩ := hp9
          have q5 : a5 ≤ F 24 := q5
          have hw5 : eE (A 106) (F 24) 121 (f4, a4) = (f5, a5) := hw5
          refine R_s (f' := (39, [some (vR 88)], [], LAY (u A 100 (wr (A 100) (a + 5) (-1))) (u (u (u F 27 (F 27)) 26 f5) 25 a5), 0, 0)) hc132 0 rfl trivial ?_
          refine R_s (P := True) (f' := (43, [some (vR 88)], [vI f5], LAY (u A 100 (wr (A 100) (a + 5) (-1))) (u (u (u F 27 (F 27)) 26 f5) 25 a5), 0, 0)) hc132 2 rfl trivial ?_
          refine R_if (t := 67) hc132 rfl rfl (fun (c5 : ¬ f5 = 0) => ?_) (fun (c5 : ¬ (¬ f5 = 0)) => ?_)
          · refine R_s (P := True) (f' := (74, [some (vR 88)], [vI 108, vI 101, vI 105, vR 88], LAY (u A 100 (wr (A 100) (a + 5) (-1))) (u (u (u F 27 (F 27)) 26 f5) 25 a5), 0, 0)) hc132 4 rfl trivial ?_
            refine R_cv hc132 rfl rfl ?_ (fun r G h => h)
            refine R_s (P := True) (f' := (2, [some (vR 88), some (vI 105), some (vI 101), some (vI 108)], [vI 105, vR 88], LAY (u A 100 (wr (A 100) (a + 5) (-1))) (u (u (u F 27 (F 27)) 26 f5) 25 a5), 0, 0)) hc129 2 rfl trivial ?_
            refine R_cv hc129 rfl rfl (l_eats (A := (u A 100 (wr (A 100) (a + 5) (-1)))) (F := (u (u (u F 27 (F 27)) 26 f5) 25 a5)) h24 ⟨by (show 0 ≤ a5); omega, by (show a5 ≤ F 24); omega⟩ h106 (by show f5 = 0 ∨ f5 = 1; omega) (c := 105) (by decide)) (fun r G9 hp9 => ?_)
            obtain ⟨rfl, f6, a6, rfl, hf6, hw6, p6, q6⟩ := hp9
            have q6 : a6 ≤ F 24 := q6
            have hw6 : eE (A 106) (F 24) 105 (f5, a5) = (f6, a6) := hw6
            refine R_s (f' := (5, [some (vR 88), some (vI 105), some (vI 101), some (vI 108)], [], LAY (u A 100 (wr (A 100) (a + 5) (-1))) (u (u (u F 27 (F 27)) 26 f6) 25 a6), 0, 0)) hc129 0 rfl trivial ?_
            refine R_s (P := True) (f' := (7, [some (vR 88), some (vI 105), some (vI 101), some (vI 108)], [vI 101, vR 88], LAY (u A 100 (wr (A 100) (a + 5) (-1))) (u (u (u F 27 (F 27)) 26 f6) 25 a6), 0, 0)) hc129 2 rfl trivial ?_
            refine R_cv hc129 rfl rfl (l_eats (A := (u A 100 (wr (A 100) (a + 5) (-1)))) (F := (u (u (u F 27 (F 27)) 26 f6) 25 a6)) h24 ⟨by (show 0 ≤ a6); omega, by (show a6 ≤ F 24); omega⟩ h106 (by show f6 = 0 ∨ f6 = 1; omega) (c := 101) (by decide)) (fun r G9 hp9 => ?_)
            obtain ⟨rfl, f7, a7, rfl, hf7, hw7, p7, q7⟩ := hp9
            have q7 : a7 ≤ F 24 := q7
            have hw7 : eE (A 106) (F 24) 101 (f6, a6) = (f7, a7) := hw7
            refine R_s (f' := (10, [some (vR 88), some (vI 105), some (vI 101), some (vI 108)], [], LAY (u A 100 (wr (A 100) (a + 5) (-1))) (u (u (u F 27 (F 27)) 26 f7) 25 a7), 0, 0)) hc129 0 rfl trivial ?_
            refine R_s (P := True) (f' := (12, [some (vR 88), some (vI 105), some (vI 101), some (vI 108)], [vI 108, vR 88], LAY (u A 100 (wr (A 100) (a + 5) (-1))) (u (u (u F 27 (F 27)) 26 f7) 25 a7), 0, 0)) hc129 2 rfl trivial ?_
            refine R_cv hc129 rfl rfl (l_eats (A := (u A 100 (wr (A 100) (a + 5) (-1)))) (F := (u (u (u F 27 (F 27)) 26 f7) 25 a7)) h24 ⟨by (show 0 ≤ a7); omega, by (show a7 ≤ F 24); omega⟩ h106 (by show f7 = 0 ∨ f7 = 1; omega) (c := 108) (by decide)) (fun r G9 hp9 => ?_)
            obtain ⟨rfl, f8, a8, rfl, hf8, hw8, p8, q8⟩ := hp9
            have q8 : a8 ≤ F 24 := q8
            have hw8 : eE (A 106) (F 24) 108 (f7, a7) = (f8, a8) := hw8
            refine R_s (f' := (15, [some (vR 88), some (vI 105), some (vI 101), some (vI 108)], [], LAY (u A 100 (wr (A 100) (a + 5) (-1))) (u (u (u F 27 (F 27)) 26 f8) 25 a8), 0, 0)) hc129 0 rfl trivial ?_
            refine R_retv hc129 rfl rfl ?_
            refine R_s (f' := (77, [some (vR 88)], [], LAY (u A 100 (wr (A 100) (a + 5) (-1))) (u (u (u F 27 (F 27)) 26 f8) 25 a8), 0, 0)) hc132 0 rfl trivial ?_
            refine R_s (P := True) (f' := (80, [some (vR 88)], [vI 100, vR 88], LAY (u A 100 (wr (A 100) (a + 5) (-1))) (u (u (u F 27 (F 27)) 26 f8) 25 a8), 0, 0)) hc132 2 rfl trivial ?_
            refine R_cv hc132 rfl rfl (l_eats (A := (u A 100 (wr (A 100) (a + 5) (-1)))) (F := (u (u (u F 27 (F 27)) 26 f8) 25 a8)) h24 ⟨by (show 0 ≤ a8); omega, by (show a8 ≤ F 24); omega⟩ h106 (by show f8 = 0 ∨ f8 = 1; omega) (c := 100) (by decide)) (fun r G9 hp9 => ?_)
            obtain ⟨rfl, f9, a9, rfl, hf9, hw9, p9, q9⟩ := hp9
            have q9 : a9 ≤ F 24 := q9
            have hw9 : eE (A 106) (F 24) 100 (f8, a8) = (f9, a9) := hw9
            refine R_s (f' := (83, [some (vR 88)], [], LAY (u A 100 (wr (A 100) (a + 5) (-1))) (u (u (u F 27 (F 27)) 26 f9) 25 a9), 0, 0)) hc132 0 rfl trivial ?_
            refine R_s (P := True) (f' := (84, [some (vR 88)], [vI 1], LAY (u A 100 (wr (A 100) (a + 5) (-1))) (u (u (u F 27 (F 27)) 26 f9) 25 a9), 0, 0)) hc132 1 rfl trivial ?_
            refine R_reti hc132 rfl rfl ?_
            refine R_s (f' := (57, [some (vR 88), some (vI a), none, none], [vI 1], LAY (u A 100 (wr (A 100) (a + 5) (-1))) (u (u (u F 27 (F 27)) 26 f9) 25 a9), 0, 0)) hc133 0 rfl trivial ?_
            refine R_s (P := True) (f' := (59, [some (vR 88), some (vI a), some (vI 1), none], [vR 88], LAY (u A 100 (wr (A 100) (a + 5) (-1))) (u (u (u F 27 (F 27)) 26 f9) 25 a9), 0, 0)) hc133 2 rfl trivial ?_
            refine R_cv hc133 rfl rfl (l_here (A := (u A 100 (wr (A 100) (a + 5) (-1)))) (F := (u (u (u F 27 (F 27)) 26 f9) 25 a9)) h24 ⟨by (show 0 ≤ a9); omega, by (show a9 ≤ F 24); omega⟩ h106) (fun r G9 hp9 => ?_)
            obtain ⟨e1, rfl⟩ := hp9
            have e2 : r = some (vI (nx (A 106) (F 24) (a9))) := e1
            clear e1
            subst e2
            refine R_s (f' := (62, [some (vR 88), some (vI a), some (vI 1), none], [vI (nx (A 106) (F 24) (a9))], LAY (u A 100 (wr (A 100) (a + 5) (-1))) (u (u (u F 27 (F 27)) 26 f9) 25 a9), 0, 0)) hc133 0 rfl trivial ?_
            refine R_s (P := True) (f' := (67, [some (vR 88), some (vI a), some (vI 1), some (vI (nx (A 106) (F 24) (a9)))], [vI f9], LAY (u A 100 (wr (A 100) (a + 5) (-1))) (u (u (u F 27 (F 27)) 26 f9) 25 a9), 0, 0)) hc133 3 rfl trivial ?_
            refine R_if (t := 101) hc133 rfl rfl (fun (c6 : ¬ f9 = 0) => ?_) (fun (c6 : ¬ (¬ f9 = 0)) => ?_)
            · refine R_s (P := (1 = 0 ∨ 1 = 1) ∧ True) (f' := (108, [some (vR 88), some (vI a), some (vI 1), some (vI (nx (A 106) (F 24) (a9)))], [vI 4, vR 88], LAY (u A 100 (wr (A 100) (a + 5) (-1))) (u (u (u F 27 (F 27)) 25 a9) 26 1), 0, 0)) hc133 5 rfl ⟨(by omega), trivial⟩ ?_
              refine R_cv hc133 rfl rfl (l_digs (A := (u A 100 (wr (A 100) (a + 5) (-1)))) (F := (u (u (u F 27 (F 27)) 25 a9) 26 1)) h24 ⟨by (show 0 ≤ a9); omega, by (show a9 ≤ F 24); omega⟩ h106 (by show 1 = 0 ∨ 1 = 1; omega) (kk := 4) (by decide) rfl) (fun r G9 hp9 => ?_)
              obtain ⟨rfl, f10, a10, v10, rfl, hf10, hw10, p10, q10, w10⟩ := hp9
              have q10 : a10 ≤ F 24 := q10
              have hw10 : dG (A 106) (F 24) 4 (1, a9) = ((f10, a10), v10) := hw10
              refine R_s (f' := (111, [some (vR 88), some (vI a), some (vI 1), some (vI (nx (A 106) (F 24) (a9)))], [], LAY (u A 100 (wr (A 100) (a + 5) (-1))) (u (u (u F 26 f10) 25 a10) 27 v10), 0, 0)) hc133 0 rfl trivial ?_
              refine R_s (P := inI (a + 5) ∧ (0 ≤ a + 5 ∧ a + 5 < ((wr (A 100) (a + 5) (-1)).length : Int)) ∧ inI (a + 6) ∧ (0 ≤ a + 6 ∧ a + 6 < ((wr (wr (A 100) (a + 5) (-1)) (a + 5) 1).length : Int)) ∧ inI (a + 7) ∧ (0 ≤ a + 7 ∧ a + 7 < ((wr (wr (wr (A 100) (a + 5) (-1)) (a + 5) 1) (a + 6) (nx (A 106) (F 24) (a9))).length : Int)) ∧ True) (f' := (143, [some (vR 88), some (vI a), some (vI 1), some (vI (nx (A 106) (F 24) (a9)))], [], LAY (u A 100 (wr (wr (wr (wr (A 100) (a + 5) (-1)) (a + 5) 1) (a + 6) (nx (A 106) (F 24) (a9))) (a + 7) v10)) (u (u (u F 26 f10) 25 a10) 27 v10), 0, 0)) hc133 22 rfl ⟨⟨by omega, by omega⟩, ⟨by omega, by simp only [wr_len]; omega⟩, ⟨by omega, by omega⟩, ⟨by omega, by simp only [wr_len]; omega⟩, ⟨by omega, by omega⟩, ⟨by omega, by simp only [wr_len]; omega⟩, trivial⟩ ?_
              refine R_retv hc133 rfl rfl ⟨rfl, wr (wr (wr (wr (A 100) (a + 5) (-1)) (a + 5) 1) (a + 6) (nx (A 106) (F 24) (a9))) (a + 7) v10, f10, a10, v10, rfl, (by (try simp only [wr_len]); omega), (by omega), (by omega), (by omega), fun q hq hq9 => by rw [rd_wr_n (by omega) (by omega) (by omega), rd_wr_n (by omega) (by omega) (by omega), rd_wr_n (by omega) (by omega) (by omega), rd_wr_n (by omega) (by omega) (by omega)], ?_⟩
              have c0 : F 26 = 0 := by omega
              have c32 : nx (A 106) (F 24) (F 25) = 32 := by omega
              have eI : wD (A 106) (F 24) IFF (F 26, F 25) = (f4, a4) := by simp only [IFF, wD, hw1, hw2, hw3, hw4]
              have e2 : t2 (A 106) (F 24) (F 26, F 25) = ((f9, a9), 1) := by
                unfold t2
                rw [eI, if_pos (by (try dsimp only); omega)]
                unfold fD
                (try dsimp only)
                rw [if_neg (by omega), hw5]
                (try dsimp only)
                rw [if_neg (fun z => by omega)]
                simp only [IELD, wD, hw6, hw7, hw8, hw9]
              have e3 : t3 (A 106) (F 24) (F 26, F 25) = (1, a9) := by
                unfold t3
                rw [e2]
                (try dsimp only)
                rw [if_neg (fun z => by omega)]
              have e4 : dG (A 106) (F 24) 4 (t3 (A 106) (F 24) (F 26, F 25)) = ((f10, a10), v10) := by
                rw [e3]
                exact hw10
              have eS : tS (A 106) (F 24) (F 26, F 25) = (f10, a10) := by
                unfold tS
                rw [if_pos ⟨c0, c32⟩, e4]
              have eF : tF (A 106) (F 24) (F 26, F 25) = 1 := by
                unfold tF
                rw [if_pos ⟨c0, c32⟩, e2]
              have eG : tG (A 106) (F 24) (F 26, F 25) = nx (A 106) (F 24) (a9) := by
                unfold tG
                rw [e2]
              have eH : tH (A 106) (F 24) (F 26, F 25) = v10 := by
                unfold tH
                rw [e4]
              refine ⟨eS, fun z => ⟨?_, .inr ⟨?_, ?_⟩⟩⟩
              · rw [eF, rd_wr_n (by omega) (by omega) (by omega), rd_wr_n (by omega) (by omega) (by omega), rd_wr_s (by omega) (by (try simp only [wr_len]); omega)]
              · rw [eG, rd_wr_n (by omega) (by omega) (by omega), rd_wr_s (by omega) (by (try simp only [wr_len]); omega)]
              · rw [eH, rd_wr_s (by omega) (by (try simp only [wr_len]); omega)]
            · refine R_s (P := True) (f' := (73, [some (vR 88), some (vI a), some (vI 1), some (vI (nx (A 106) (F 24) (a9)))], [vI 61, vI (nx (A 106) (F 24) (a9))], LAY (u A 100 (wr (A 100) (a + 5) (-1))) (u (u (u F 27 (F 27)) 26 f9) 25 a9), 0, 0)) hc133 2 rfl trivial ?_
              refine R_ic (t := 88) hc133 rfl rfl (fun (c7 : nx (A 106) (F 24) (a9) = 61) => ?_) (fun (c7 : ¬ (nx (A 106) (F 24) (a9) = 61)) => ?_)
              · refine R_s (P := inI (a9 + 1) ∧ True) (f' := (108, [some (vR 88), some (vI a), some (vI 1), some (vI (nx (A 106) (F 24) (a9)))], [vI 4, vR 88], LAY (u A 100 (wr (A 100) (a + 5) (-1))) (u (u (u F 27 (F 27)) 26 f9) 25 (a9 + 1)), 0, 0)) hc133 9 rfl ⟨⟨by omega, by omega⟩, trivial⟩ ?_
                refine R_cv hc133 rfl rfl (l_digs (A := (u A 100 (wr (A 100) (a + 5) (-1)))) (F := (u (u (u F 27 (F 27)) 26 f9) 25 (a9 + 1))) h24 ⟨by (show 0 ≤ a9 + 1); omega, by (have := nx_in (l := A 106) (n := F 24) (a := a9) (by omega)); (show a9 + 1 ≤ F 24); omega⟩ h106 (by show f9 = 0 ∨ f9 = 1; omega) (kk := 4) (by decide) rfl) (fun r G9 hp9 => ?_)
                obtain ⟨rfl, f11, a11, v11, rfl, hf11, hw11, p11, q11, w11⟩ := hp9
                have q11 : a11 ≤ F 24 := q11
                have hw11 : dG (A 106) (F 24) 4 (f9, a9 + 1) = ((f11, a11), v11) := hw11
                refine R_s (f' := (111, [some (vR 88), some (vI a), some (vI 1), some (vI (nx (A 106) (F 24) (a9)))], [], LAY (u A 100 (wr (A 100) (a + 5) (-1))) (u (u (u F 26 f11) 25 a11) 27 v11), 0, 0)) hc133 0 rfl trivial ?_
                refine R_s (P := inI (a + 5) ∧ (0 ≤ a + 5 ∧ a + 5 < ((wr (A 100) (a + 5) (-1)).length : Int)) ∧ inI (a + 6) ∧ (0 ≤ a + 6 ∧ a + 6 < ((wr (wr (A 100) (a + 5) (-1)) (a + 5) 1).length : Int)) ∧ inI (a + 7) ∧ (0 ≤ a + 7 ∧ a + 7 < ((wr (wr (wr (A 100) (a + 5) (-1)) (a + 5) 1) (a + 6) (nx (A 106) (F 24) (a9))).length : Int)) ∧ True) (f' := (143, [some (vR 88), some (vI a), some (vI 1), some (vI (nx (A 106) (F 24) (a9)))], [], LAY (u A 100 (wr (wr (wr (wr (A 100) (a + 5) (-1)) (a + 5) 1) (a + 6) (nx (A 106) (F 24) (a9))) (a + 7) v11)) (u (u (u F 26 f11) 25 a11) 27 v11), 0, 0)) hc133 22 rfl ⟨⟨by omega, by omega⟩, ⟨by omega, by simp only [wr_len]; omega⟩, ⟨by omega, by omega⟩, ⟨by omega, by simp only [wr_len]; omega⟩, ⟨by omega, by omega⟩, ⟨by omega, by simp only [wr_len]; omega⟩, trivial⟩ ?_
                refine R_retv hc133 rfl rfl ⟨rfl, wr (wr (wr (wr (A 100) (a + 5) (-1)) (a + 5) 1) (a + 6) (nx (A 106) (F 24) (a9))) (a + 7) v11, f11, a11, v11, rfl, (by (try simp only [wr_len]); omega), (by omega), (by omega), (by omega), fun q hq hq9 => by rw [rd_wr_n (by omega) (by omega) (by omega), rd_wr_n (by omega) (by omega) (by omega), rd_wr_n (by omega) (by omega) (by omega), rd_wr_n (by omega) (by omega) (by omega)], ?_⟩
                have c0 : F 26 = 0 := by omega
                have c32 : nx (A 106) (F 24) (F 25) = 32 := by omega
                have eI : wD (A 106) (F 24) IFF (F 26, F 25) = (f4, a4) := by simp only [IFF, wD, hw1, hw2, hw3, hw4]
                have e2 : t2 (A 106) (F 24) (F 26, F 25) = ((f9, a9), 1) := by
                  unfold t2
                  rw [eI, if_pos (by (try dsimp only); omega)]
                  unfold fD
                  (try dsimp only)
                  rw [if_neg (by omega), hw5]
                  (try dsimp only)
                  rw [if_neg (fun z => by omega)]
                  simp only [IELD, wD, hw6, hw7, hw8, hw9]
                have e3 : t3 (A 106) (F 24) (F 26, F 25) = (0, a9 + 1) := by
                  unfold t3
                  rw [e2]
                  (try dsimp only)
                  rw [if_pos ⟨by omega, by omega⟩]
                have e4 : dG (A 106) (F 24) 4 (t3 (A 106) (F 24) (F 26, F 25)) = ((f11, a11), v11) := by
                  rw [e3]
                  rw [show (0 : Int) = f9 by omega]
                  exact hw11
                have eS : tS (A 106) (F 24) (F 26, F 25) = (f11, a11) := by
                  unfold tS
                  rw [if_pos ⟨c0, c32⟩, e4]
                have eF : tF (A 106) (F 24) (F 26, F 25) = 1 := by
                  unfold tF
                  rw [if_pos ⟨c0, c32⟩, e2]
                have eG : tG (A 106) (F 24) (F 26, F 25) = nx (A 106) (F 24) (a9) := by
                  unfold tG
                  rw [e2]
                have eH : tH (A 106) (F 24) (F 26, F 25) = v11 := by
                  unfold tH
                  rw [e4]
                refine ⟨eS, fun z => ⟨?_, .inr ⟨?_, ?_⟩⟩⟩
                · rw [eF, rd_wr_n (by omega) (by omega) (by omega), rd_wr_n (by omega) (by omega) (by omega), rd_wr_s (by omega) (by (try simp only [wr_len]); omega)]
                · rw [eG, rd_wr_n (by omega) (by omega) (by omega), rd_wr_s (by omega) (by (try simp only [wr_len]); omega)]
                · rw [eH, rd_wr_s (by omega) (by (try simp only [wr_len]); omega)]
              · refine R_s (P := True) (f' := (79, [some (vR 88), some (vI a), some (vI 1), some (vI (nx (A 106) (F 24) (a9)))], [vI 60, vI (nx (A 106) (F 24) (a9))], LAY (u A 100 (wr (A 100) (a + 5) (-1))) (u (u (u F 27 (F 27)) 26 f9) 25 a9), 0, 0)) hc133 2 rfl trivial ?_
                refine R_ic (t := 88) hc133 rfl rfl (fun (c8 : nx (A 106) (F 24) (a9) = 60) => ?_) (fun (c8 : ¬ (nx (A 106) (F 24) (a9) = 60)) => ?_)
                · refine R_s (P := inI (a9 + 1) ∧ True) (f' := (108, [some (vR 88), some (vI a), some (vI 1), some (vI (nx (A 106) (F 24) (a9)))], [vI 4, vR 88], LAY (u A 100 (wr (A 100) (a + 5) (-1))) (u (u (u F 27 (F 27)) 26 f9) 25 (a9 + 1)), 0, 0)) hc133 9 rfl ⟨⟨by omega, by omega⟩, trivial⟩ ?_
                  refine R_cv hc133 rfl rfl (l_digs (A := (u A 100 (wr (A 100) (a + 5) (-1)))) (F := (u (u (u F 27 (F 27)) 26 f9) 25 (a9 + 1))) h24 ⟨by (show 0 ≤ a9 + 1); omega, by (have := nx_in (l := A 106) (n := F 24) (a := a9) (by omega)); (show a9 + 1 ≤ F 24); omega⟩ h106 (by show f9 = 0 ∨ f9 = 1; omega) (kk := 4) (by decide) rfl) (fun r G9 hp9 => ?_)
                  obtain ⟨rfl, f12, a12, v12, rfl, hf12, hw12, p12, q12, w12⟩ := hp9
                  have q12 : a12 ≤ F 24 := q12
                  have hw12 : dG (A 106) (F 24) 4 (f9, a9 + 1) = ((f12, a12), v12) := hw12
                  refine R_s (f' := (111, [some (vR 88), some (vI a), some (vI 1), some (vI (nx (A 106) (F 24) (a9)))], [], LAY (u A 100 (wr (A 100) (a + 5) (-1))) (u (u (u F 26 f12) 25 a12) 27 v12), 0, 0)) hc133 0 rfl trivial ?_
                  refine R_s (P := inI (a + 5) ∧ (0 ≤ a + 5 ∧ a + 5 < ((wr (A 100) (a + 5) (-1)).length : Int)) ∧ inI (a + 6) ∧ (0 ≤ a + 6 ∧ a + 6 < ((wr (wr (A 100) (a + 5) (-1)) (a + 5) 1).length : Int)) ∧ inI (a + 7) ∧ (0 ≤ a + 7 ∧ a + 7 < ((wr (wr (wr (A 100) (a + 5) (-1)) (a + 5) 1) (a + 6) (nx (A 106) (F 24) (a9))).length : Int)) ∧ True) (f' := (143, [some (vR 88), some (vI a), some (vI 1), some (vI (nx (A 106) (F 24) (a9)))], [], LAY (u A 100 (wr (wr (wr (wr (A 100) (a + 5) (-1)) (a + 5) 1) (a + 6) (nx (A 106) (F 24) (a9))) (a + 7) v12)) (u (u (u F 26 f12) 25 a12) 27 v12), 0, 0)) hc133 22 rfl ⟨⟨by omega, by omega⟩, ⟨by omega, by simp only [wr_len]; omega⟩, ⟨by omega, by omega⟩, ⟨by omega, by simp only [wr_len]; omega⟩, ⟨by omega, by omega⟩, ⟨by omega, by simp only [wr_len]; omega⟩, trivial⟩ ?_
                  refine R_retv hc133 rfl rfl ⟨rfl, wr (wr (wr (wr (A 100) (a + 5) (-1)) (a + 5) 1) (a + 6) (nx (A 106) (F 24) (a9))) (a + 7) v12, f12, a12, v12, rfl, (by (try simp only [wr_len]); omega), (by omega), (by omega), (by omega), fun q hq hq9 => by rw [rd_wr_n (by omega) (by omega) (by omega), rd_wr_n (by omega) (by omega) (by omega), rd_wr_n (by omega) (by omega) (by omega), rd_wr_n (by omega) (by omega) (by omega)], ?_⟩
                  have c0 : F 26 = 0 := by omega
                  have c32 : nx (A 106) (F 24) (F 25) = 32 := by omega
                  have eI : wD (A 106) (F 24) IFF (F 26, F 25) = (f4, a4) := by simp only [IFF, wD, hw1, hw2, hw3, hw4]
                  have e2 : t2 (A 106) (F 24) (F 26, F 25) = ((f9, a9), 1) := by
                    unfold t2
                    rw [eI, if_pos (by (try dsimp only); omega)]
                    unfold fD
                    (try dsimp only)
                    rw [if_neg (by omega), hw5]
                    (try dsimp only)
                    rw [if_neg (fun z => by omega)]
                    simp only [IELD, wD, hw6, hw7, hw8, hw9]
                  have e3 : t3 (A 106) (F 24) (F 26, F 25) = (0, a9 + 1) := by
                    unfold t3
                    rw [e2]
                    (try dsimp only)
                    rw [if_pos ⟨by omega, by omega⟩]
                  have e4 : dG (A 106) (F 24) 4 (t3 (A 106) (F 24) (F 26, F 25)) = ((f12, a12), v12) := by
                    rw [e3]
                    rw [show (0 : Int) = f9 by omega]
                    exact hw12
                  have eS : tS (A 106) (F 24) (F 26, F 25) = (f12, a12) := by
                    unfold tS
                    rw [if_pos ⟨c0, c32⟩, e4]
                  have eF : tF (A 106) (F 24) (F 26, F 25) = 1 := by
                    unfold tF
                    rw [if_pos ⟨c0, c32⟩, e2]
                  have eG : tG (A 106) (F 24) (F 26, F 25) = nx (A 106) (F 24) (a9) := by
                    unfold tG
                    rw [e2]
                  have eH : tH (A 106) (F 24) (F 26, F 25) = v12 := by
                    unfold tH
                    rw [e4]
                  refine ⟨eS, fun z => ⟨?_, .inr ⟨?_, ?_⟩⟩⟩
                  · rw [eF, rd_wr_n (by omega) (by omega) (by omega), rd_wr_n (by omega) (by omega) (by omega), rd_wr_s (by omega) (by (try simp only [wr_len]); omega)]
                  · rw [eG, rd_wr_n (by omega) (by omega) (by omega), rd_wr_s (by omega) (by (try simp only [wr_len]); omega)]
                  · rw [eH, rd_wr_s (by omega) (by (try simp only [wr_len]); omega)]
                · refine R_s (P := True) (f' := (85, [some (vR 88), some (vI a), some (vI 1), some (vI (nx (A 106) (F 24) (a9)))], [vI 62, vI (nx (A 106) (F 24) (a9))], LAY (u A 100 (wr (A 100) (a + 5) (-1))) (u (u (u F 27 (F 27)) 26 f9) 25 a9), 0, 0)) hc133 2 rfl trivial ?_
                  refine R_ic (t := 101) hc133 rfl rfl (fun (c9 : ¬ nx (A 106) (F 24) (a9) = 62) => ?_) (fun (c9 : ¬ (¬ nx (A 106) (F 24) (a9) = 62)) => ?_)
                  · refine R_s (P := (1 = 0 ∨ 1 = 1) ∧ True) (f' := (108, [some (vR 88), some (vI a), some (vI 1), some (vI (nx (A 106) (F 24) (a9)))], [vI 4, vR 88], LAY (u A 100 (wr (A 100) (a + 5) (-1))) (u (u (u F 27 (F 27)) 25 a9) 26 1), 0, 0)) hc133 5 rfl ⟨(by omega), trivial⟩ ?_
                    refine R_cv hc133 rfl rfl (l_digs (A := (u A 100 (wr (A 100) (a + 5) (-1)))) (F := (u (u (u F 27 (F 27)) 25 a9) 26 1)) h24 ⟨by (show 0 ≤ a9); omega, by (show a9 ≤ F 24); omega⟩ h106 (by show 1 = 0 ∨ 1 = 1; omega) (kk := 4) (by decide) rfl) (fun r G9 hp9 => ?_)
                    obtain ⟨rfl, f13, a13, v13, rfl, hf13, hw13, p13, q13, w13⟩ := hp9
                    have q13 : a13 ≤ F 24 := q13
                    have hw13 : dG (A 106) (F 24) 4 (1, a9) = ((f13, a13), v13) := hw13
                    refine R_s (f' := (111, [some (vR 88), some (vI a), some (vI 1), some (vI (nx (A 106) (F 24) (a9)))], [], LAY (u A 100 (wr (A 100) (a + 5) (-1))) (u (u (u F 26 f13) 25 a13) 27 v13), 0, 0)) hc133 0 rfl trivial ?_
                    refine R_s (P := inI (a + 5) ∧ (0 ≤ a + 5 ∧ a + 5 < ((wr (A 100) (a + 5) (-1)).length : Int)) ∧ inI (a + 6) ∧ (0 ≤ a + 6 ∧ a + 6 < ((wr (wr (A 100) (a + 5) (-1)) (a + 5) 1).length : Int)) ∧ inI (a + 7) ∧ (0 ≤ a + 7 ∧ a + 7 < ((wr (wr (wr (A 100) (a + 5) (-1)) (a + 5) 1) (a + 6) (nx (A 106) (F 24) (a9))).length : Int)) ∧ True) (f' := (143, [some (vR 88), some (vI a), some (vI 1), some (vI (nx (A 106) (F 24) (a9)))], [], LAY (u A 100 (wr (wr (wr (wr (A 100) (a + 5) (-1)) (a + 5) 1) (a + 6) (nx (A 106) (F 24) (a9))) (a + 7) v13)) (u (u (u F 26 f13) 25 a13) 27 v13), 0, 0)) hc133 22 rfl ⟨⟨by omega, by omega⟩, ⟨by omega, by simp only [wr_len]; omega⟩, ⟨by omega, by omega⟩, ⟨by omega, by simp only [wr_len]; omega⟩, ⟨by omega, by omega⟩, ⟨by omega, by simp only [wr_len]; omega⟩, trivial⟩ ?_
                    refine R_retv hc133 rfl rfl ⟨rfl, wr (wr (wr (wr (A 100) (a + 5) (-1)) (a + 5) 1) (a + 6) (nx (A 106) (F 24) (a9))) (a + 7) v13, f13, a13, v13, rfl, (by (try simp only [wr_len]); omega), (by omega), (by omega), (by omega), fun q hq hq9 => by rw [rd_wr_n (by omega) (by omega) (by omega), rd_wr_n (by omega) (by omega) (by omega), rd_wr_n (by omega) (by omega) (by omega), rd_wr_n (by omega) (by omega) (by omega)], ?_⟩
                    have c0 : F 26 = 0 := by omega
                    have c32 : nx (A 106) (F 24) (F 25) = 32 := by omega
                    have eI : wD (A 106) (F 24) IFF (F 26, F 25) = (f4, a4) := by simp only [IFF, wD, hw1, hw2, hw3, hw4]
                    have e2 : t2 (A 106) (F 24) (F 26, F 25) = ((f9, a9), 1) := by
                      unfold t2
                      rw [eI, if_pos (by (try dsimp only); omega)]
                      unfold fD
                      (try dsimp only)
                      rw [if_neg (by omega), hw5]
                      (try dsimp only)
                      rw [if_neg (fun z => by omega)]
                      simp only [IELD, wD, hw6, hw7, hw8, hw9]
                    have e3 : t3 (A 106) (F 24) (F 26, F 25) = (1, a9) := by
                      unfold t3
                      rw [e2]
                      (try dsimp only)
                      rw [if_neg (fun z => by omega)]
                    have e4 : dG (A 106) (F 24) 4 (t3 (A 106) (F 24) (F 26, F 25)) = ((f13, a13), v13) := by
                      rw [e3]
                      exact hw13
                    have eS : tS (A 106) (F 24) (F 26, F 25) = (f13, a13) := by
                      unfold tS
                      rw [if_pos ⟨c0, c32⟩, e4]
                    have eF : tF (A 106) (F 24) (F 26, F 25) = 1 := by
                      unfold tF
                      rw [if_pos ⟨c0, c32⟩, e2]
                    have eG : tG (A 106) (F 24) (F 26, F 25) = nx (A 106) (F 24) (a9) := by
                      unfold tG
                      rw [e2]
                    have eH : tH (A 106) (F 24) (F 26, F 25) = v13 := by
                      unfold tH
                      rw [e4]
                    refine ⟨eS, fun z => ⟨?_, .inr ⟨?_, ?_⟩⟩⟩
                    · rw [eF, rd_wr_n (by omega) (by omega) (by omega), rd_wr_n (by omega) (by omega) (by omega), rd_wr_s (by omega) (by (try simp only [wr_len]); omega)]
                    · rw [eG, rd_wr_n (by omega) (by omega) (by omega), rd_wr_s (by omega) (by (try simp only [wr_len]); omega)]
                    · rw [eH, rd_wr_s (by omega) (by (try simp only [wr_len]); omega)]
                  · refine R_s (P := inI (a9 + 1) ∧ True) (f' := (108, [some (vR 88), some (vI a), some (vI 1), some (vI (nx (A 106) (F 24) (a9)))], [vI 4, vR 88], LAY (u A 100 (wr (A 100) (a + 5) (-1))) (u (u (u F 27 (F 27)) 26 f9) 25 (a9 + 1)), 0, 0)) hc133 9 rfl ⟨⟨by omega, by omega⟩, trivial⟩ ?_
                    refine R_cv hc133 rfl rfl (l_digs (A := (u A 100 (wr (A 100) (a + 5) (-1)))) (F := (u (u (u F 27 (F 27)) 26 f9) 25 (a9 + 1))) h24 ⟨by (show 0 ≤ a9 + 1); omega, by (have := nx_in (l := A 106) (n := F 24) (a := a9) (by omega)); (show a9 + 1 ≤ F 24); omega⟩ h106 (by show f9 = 0 ∨ f9 = 1; omega) (kk := 4) (by decide) rfl) (fun r G9 hp9 => ?_)
                    obtain ⟨rfl, f14, a14, v14, rfl, hf14, hw14, p14, q14, w14⟩ := hp9
                    have q14 : a14 ≤ F 24 := q14
                    have hw14 : dG (A 106) (F 24) 4 (f9, a9 + 1) = ((f14, a14), v14) := hw14
                    refine R_s (f' := (111, [some (vR 88), some (vI a), some (vI 1), some (vI (nx (A 106) (F 24) (a9)))], [], LAY (u A 100 (wr (A 100) (a + 5) (-1))) (u (u (u F 26 f14) 25 a14) 27 v14), 0, 0)) hc133 0 rfl trivial ?_
                    refine R_s (P := inI (a + 5) ∧ (0 ≤ a + 5 ∧ a + 5 < ((wr (A 100) (a + 5) (-1)).length : Int)) ∧ inI (a + 6) ∧ (0 ≤ a + 6 ∧ a + 6 < ((wr (wr (A 100) (a + 5) (-1)) (a + 5) 1).length : Int)) ∧ inI (a + 7) ∧ (0 ≤ a + 7 ∧ a + 7 < ((wr (wr (wr (A 100) (a + 5) (-1)) (a + 5) 1) (a + 6) (nx (A 106) (F 24) (a9))).length : Int)) ∧ True) (f' := (143, [some (vR 88), some (vI a), some (vI 1), some (vI (nx (A 106) (F 24) (a9)))], [], LAY (u A 100 (wr (wr (wr (wr (A 100) (a + 5) (-1)) (a + 5) 1) (a + 6) (nx (A 106) (F 24) (a9))) (a + 7) v14)) (u (u (u F 26 f14) 25 a14) 27 v14), 0, 0)) hc133 22 rfl ⟨⟨by omega, by omega⟩, ⟨by omega, by simp only [wr_len]; omega⟩, ⟨by omega, by omega⟩, ⟨by omega, by simp only [wr_len]; omega⟩, ⟨by omega, by omega⟩, ⟨by omega, by simp only [wr_len]; omega⟩, trivial⟩ ?_
                    refine R_retv hc133 rfl rfl ⟨rfl, wr (wr (wr (wr (A 100) (a + 5) (-1)) (a + 5) 1) (a + 6) (nx (A 106) (F 24) (a9))) (a + 7) v14, f14, a14, v14, rfl, (by (try simp only [wr_len]); omega), (by omega), (by omega), (by omega), fun q hq hq9 => by rw [rd_wr_n (by omega) (by omega) (by omega), rd_wr_n (by omega) (by omega) (by omega), rd_wr_n (by omega) (by omega) (by omega), rd_wr_n (by omega) (by omega) (by omega)], ?_⟩
                    have c0 : F 26 = 0 := by omega
                    have c32 : nx (A 106) (F 24) (F 25) = 32 := by omega
                    have eI : wD (A 106) (F 24) IFF (F 26, F 25) = (f4, a4) := by simp only [IFF, wD, hw1, hw2, hw3, hw4]
                    have e2 : t2 (A 106) (F 24) (F 26, F 25) = ((f9, a9), 1) := by
                      unfold t2
                      rw [eI, if_pos (by (try dsimp only); omega)]
                      unfold fD
                      (try dsimp only)
                      rw [if_neg (by omega), hw5]
                      (try dsimp only)
                      rw [if_neg (fun z => by omega)]
                      simp only [IELD, wD, hw6, hw7, hw8, hw9]
                    have e3 : t3 (A 106) (F 24) (F 26, F 25) = (0, a9 + 1) := by
                      unfold t3
                      rw [e2]
                      (try dsimp only)
                      rw [if_pos ⟨by omega, by omega⟩]
                    have e4 : dG (A 106) (F 24) 4 (t3 (A 106) (F 24) (F 26, F 25)) = ((f14, a14), v14) := by
                      rw [e3]
                      rw [show (0 : Int) = f9 by omega]
                      exact hw14
                    have eS : tS (A 106) (F 24) (F 26, F 25) = (f14, a14) := by
                      unfold tS
                      rw [if_pos ⟨c0, c32⟩, e4]
                    have eF : tF (A 106) (F 24) (F 26, F 25) = 1 := by
                      unfold tF
                      rw [if_pos ⟨c0, c32⟩, e2]
                    have eG : tG (A 106) (F 24) (F 26, F 25) = nx (A 106) (F 24) (a9) := by
                      unfold tG
                      rw [e2]
                    have eH : tH (A 106) (F 24) (F 26, F 25) = v14 := by
                      unfold tH
                      rw [e4]
                    refine ⟨eS, fun z => ⟨?_, .inr ⟨?_, ?_⟩⟩⟩
                    · rw [eF, rd_wr_n (by omega) (by omega) (by omega), rd_wr_n (by omega) (by omega) (by omega), rd_wr_s (by omega) (by (try simp only [wr_len]); omega)]
                    · rw [eG, rd_wr_n (by omega) (by omega) (by omega), rd_wr_s (by omega) (by (try simp only [wr_len]); omega)]
                    · rw [eH, rd_wr_s (by omega) (by (try simp only [wr_len]); omega)]
          · refine R_s (P := True) (f' := (47, [some (vR 88)], [vR 88], LAY (u A 100 (wr (A 100) (a + 5) (-1))) (u (u (u F 27 (F 27)) 26 f5) 25 a5), 0, 0)) hc132 1 rfl trivial ?_
            refine R_cv hc132 rfl rfl (l_here (A := (u A 100 (wr (A 100) (a + 5) (-1)))) (F := (u (u (u F 27 (F 27)) 26 f5) 25 a5)) h24 ⟨by (show 0 ≤ a5); omega, by (show a5 ≤ F 24); omega⟩ h106) (fun r G9 hp9 => ?_)
            obtain ⟨e1, rfl⟩ := hp9
            have e2 : r = some (vI (nx (A 106) (F 24) (a5))) := e1
            clear e1
            subst e2
            refine R_s (f' := (50, [some (vR 88)], [vI (nx (A 106) (F 24) (a5))], LAY (u A 100 (wr (A 100) (a + 5) (-1))) (u (u (u F 27 (F 27)) 26 f5) 25 a5), 0, 0)) hc132 0 rfl trivial ?_
            refine R_s (P := True) (f' := (52, [some (vR 88)], [vI 101, vI (nx (A 106) (F 24) (a5))], LAY (u A 100 (wr (A 100) (a + 5) (-1))) (u (u (u F 27 (F 27)) 26 f5) 25 a5), 0, 0)) hc132 1 rfl trivial ?_
            refine R_ic (t := 67) hc132 rfl rfl (fun (c6 : ¬ nx (A 106) (F 24) (a5) = 101) => ?_) (fun (c6 : ¬ (¬ nx (A 106) (F 24) (a5) = 101)) => ?_)
            · refine R_s (P := True) (f' := (74, [some (vR 88)], [vI 108, vI 101, vI 105, vR 88], LAY (u A 100 (wr (A 100) (a + 5) (-1))) (u (u (u F 27 (F 27)) 26 f5) 25 a5), 0, 0)) hc132 4 rfl trivial ?_
              refine R_cv hc132 rfl rfl ?_ (fun r G h => h)
              refine R_s (P := True) (f' := (2, [some (vR 88), some (vI 105), some (vI 101), some (vI 108)], [vI 105, vR 88], LAY (u A 100 (wr (A 100) (a + 5) (-1))) (u (u (u F 27 (F 27)) 26 f5) 25 a5), 0, 0)) hc129 2 rfl trivial ?_
              refine R_cv hc129 rfl rfl (l_eats (A := (u A 100 (wr (A 100) (a + 5) (-1)))) (F := (u (u (u F 27 (F 27)) 26 f5) 25 a5)) h24 ⟨by (show 0 ≤ a5); omega, by (show a5 ≤ F 24); omega⟩ h106 (by show f5 = 0 ∨ f5 = 1; omega) (c := 105) (by decide)) (fun r G9 hp9 => ?_)
              obtain ⟨rfl, f15, a15, rfl, hf15, hw15, p15, q15⟩ := hp9
              have q15 : a15 ≤ F 24 := q15
              have hw15 : eE (A 106) (F 24) 105 (f5, a5) = (f15, a15) := hw15
              refine R_s (f' := (5, [some (vR 88), some (vI 105), some (vI 101), some (vI 108)], [], LAY (u A 100 (wr (A 100) (a + 5) (-1))) (u (u (u F 27 (F 27)) 26 f15) 25 a15), 0, 0)) hc129 0 rfl trivial ?_
              refine R_s (P := True) (f' := (7, [some (vR 88), some (vI 105), some (vI 101), some (vI 108)], [vI 101, vR 88], LAY (u A 100 (wr (A 100) (a + 5) (-1))) (u (u (u F 27 (F 27)) 26 f15) 25 a15), 0, 0)) hc129 2 rfl trivial ?_
              refine R_cv hc129 rfl rfl (l_eats (A := (u A 100 (wr (A 100) (a + 5) (-1)))) (F := (u (u (u F 27 (F 27)) 26 f15) 25 a15)) h24 ⟨by (show 0 ≤ a15); omega, by (show a15 ≤ F 24); omega⟩ h106 (by show f15 = 0 ∨ f15 = 1; omega) (c := 101) (by decide)) (fun r G9 hp9 => ?_)
              obtain ⟨rfl, f16, a16, rfl, hf16, hw16, p16, q16⟩ := hp9
              have q16 : a16 ≤ F 24 := q16
              have hw16 : eE (A 106) (F 24) 101 (f15, a15) = (f16, a16) := hw16
              refine R_s (f' := (10, [some (vR 88), some (vI 105), some (vI 101), some (vI 108)], [], LAY (u A 100 (wr (A 100) (a + 5) (-1))) (u (u (u F 27 (F 27)) 26 f16) 25 a16), 0, 0)) hc129 0 rfl trivial ?_
              refine R_s (P := True) (f' := (12, [some (vR 88), some (vI 105), some (vI 101), some (vI 108)], [vI 108, vR 88], LAY (u A 100 (wr (A 100) (a + 5) (-1))) (u (u (u F 27 (F 27)) 26 f16) 25 a16), 0, 0)) hc129 2 rfl trivial ?_
              refine R_cv hc129 rfl rfl (l_eats (A := (u A 100 (wr (A 100) (a + 5) (-1)))) (F := (u (u (u F 27 (F 27)) 26 f16) 25 a16)) h24 ⟨by (show 0 ≤ a16); omega, by (show a16 ≤ F 24); omega⟩ h106 (by show f16 = 0 ∨ f16 = 1; omega) (c := 108) (by decide)) (fun r G9 hp9 => ?_)
              obtain ⟨rfl, f17, a17, rfl, hf17, hw17, p17, q17⟩ := hp9
              have q17 : a17 ≤ F 24 := q17
              have hw17 : eE (A 106) (F 24) 108 (f16, a16) = (f17, a17) := hw17
              refine R_s (f' := (15, [some (vR 88), some (vI 105), some (vI 101), some (vI 108)], [], LAY (u A 100 (wr (A 100) (a + 5) (-1))) (u (u (u F 27 (F 27)) 26 f17) 25 a17), 0, 0)) hc129 0 rfl trivial ?_
              refine R_retv hc129 rfl rfl ?_
              refine R_s (f' := (77, [some (vR 88)], [], LAY (u A 100 (wr (A 100) (a + 5) (-1))) (u (u (u F 27 (F 27)) 26 f17) 25 a17), 0, 0)) hc132 0 rfl trivial ?_
              refine R_s (P := True) (f' := (80, [some (vR 88)], [vI 100, vR 88], LAY (u A 100 (wr (A 100) (a + 5) (-1))) (u (u (u F 27 (F 27)) 26 f17) 25 a17), 0, 0)) hc132 2 rfl trivial ?_
              refine R_cv hc132 rfl rfl (l_eats (A := (u A 100 (wr (A 100) (a + 5) (-1)))) (F := (u (u (u F 27 (F 27)) 26 f17) 25 a17)) h24 ⟨by (show 0 ≤ a17); omega, by (show a17 ≤ F 24); omega⟩ h106 (by show f17 = 0 ∨ f17 = 1; omega) (c := 100) (by decide)) (fun r G9 hp9 => ?_)
              obtain ⟨rfl, f18, a18, rfl, hf18, hw18, p18, q18⟩ := hp9
              have q18 : a18 ≤ F 24 := q18
              have hw18 : eE (A 106) (F 24) 100 (f17, a17) = (f18, a18) := hw18
              refine R_s (f' := (83, [some (vR 88)], [], LAY (u A 100 (wr (A 100) (a + 5) (-1))) (u (u (u F 27 (F 27)) 26 f18) 25 a18), 0, 0)) hc132 0 rfl trivial ?_
              refine R_s (P := True) (f' := (84, [some (vR 88)], [vI 1], LAY (u A 100 (wr (A 100) (a + 5) (-1))) (u (u (u F 27 (F 27)) 26 f18) 25 a18), 0, 0)) hc132 1 rfl trivial ?_
              refine R_reti hc132 rfl rfl ?_
              refine R_s (f' := (57, [some (vR 88), some (vI a), none, none], [vI 1], LAY (u A 100 (wr (A 100) (a + 5) (-1))) (u (u (u F 27 (F 27)) 26 f18) 25 a18), 0, 0)) hc133 0 rfl trivial ?_
              refine R_s (P := True) (f' := (59, [some (vR 88), some (vI a), some (vI 1), none], [vR 88], LAY (u A 100 (wr (A 100) (a + 5) (-1))) (u (u (u F 27 (F 27)) 26 f18) 25 a18), 0, 0)) hc133 2 rfl trivial ?_
              refine R_cv hc133 rfl rfl (l_here (A := (u A 100 (wr (A 100) (a + 5) (-1)))) (F := (u (u (u F 27 (F 27)) 26 f18) 25 a18)) h24 ⟨by (show 0 ≤ a18); omega, by (show a18 ≤ F 24); omega⟩ h106) (fun r G9 hp9 => ?_)
              obtain ⟨e1, rfl⟩ := hp9
              have e2 : r = some (vI (nx (A 106) (F 24) (a18))) := e1
              clear e1
              subst e2
              refine R_s (f' := (62, [some (vR 88), some (vI a), some (vI 1), none], [vI (nx (A 106) (F 24) (a18))], LAY (u A 100 (wr (A 100) (a + 5) (-1))) (u (u (u F 27 (F 27)) 26 f18) 25 a18), 0, 0)) hc133 0 rfl trivial ?_
              refine R_s (P := True) (f' := (67, [some (vR 88), some (vI a), some (vI 1), some (vI (nx (A 106) (F 24) (a18)))], [vI f18], LAY (u A 100 (wr (A 100) (a + 5) (-1))) (u (u (u F 27 (F 27)) 26 f18) 25 a18), 0, 0)) hc133 3 rfl trivial ?_
              refine R_if (t := 101) hc133 rfl rfl (fun (c7 : ¬ f18 = 0) => ?_) (fun (c7 : ¬ (¬ f18 = 0)) => ?_)
              · refine R_s (P := (1 = 0 ∨ 1 = 1) ∧ True) (f' := (108, [some (vR 88), some (vI a), some (vI 1), some (vI (nx (A 106) (F 24) (a18)))], [vI 4, vR 88], LAY (u A 100 (wr (A 100) (a + 5) (-1))) (u (u (u F 27 (F 27)) 25 a18) 26 1), 0, 0)) hc133 5 rfl ⟨(by omega), trivial⟩ ?_
                refine R_cv hc133 rfl rfl (l_digs (A := (u A 100 (wr (A 100) (a + 5) (-1)))) (F := (u (u (u F 27 (F 27)) 25 a18) 26 1)) h24 ⟨by (show 0 ≤ a18); omega, by (show a18 ≤ F 24); omega⟩ h106 (by show 1 = 0 ∨ 1 = 1; omega) (kk := 4) (by decide) rfl) (fun r G9 hp9 => ?_)
                obtain ⟨rfl, f19, a19, v19, rfl, hf19, hw19, p19, q19, w19⟩ := hp9
                have q19 : a19 ≤ F 24 := q19
                have hw19 : dG (A 106) (F 24) 4 (1, a18) = ((f19, a19), v19) := hw19
                refine R_s (f' := (111, [some (vR 88), some (vI a), some (vI 1), some (vI (nx (A 106) (F 24) (a18)))], [], LAY (u A 100 (wr (A 100) (a + 5) (-1))) (u (u (u F 26 f19) 25 a19) 27 v19), 0, 0)) hc133 0 rfl trivial ?_
                refine R_s (P := inI (a + 5) ∧ (0 ≤ a + 5 ∧ a + 5 < ((wr (A 100) (a + 5) (-1)).length : Int)) ∧ inI (a + 6) ∧ (0 ≤ a + 6 ∧ a + 6 < ((wr (wr (A 100) (a + 5) (-1)) (a + 5) 1).length : Int)) ∧ inI (a + 7) ∧ (0 ≤ a + 7 ∧ a + 7 < ((wr (wr (wr (A 100) (a + 5) (-1)) (a + 5) 1) (a + 6) (nx (A 106) (F 24) (a18))).length : Int)) ∧ True) (f' := (143, [some (vR 88), some (vI a), some (vI 1), some (vI (nx (A 106) (F 24) (a18)))], [], LAY (u A 100 (wr (wr (wr (wr (A 100) (a + 5) (-1)) (a + 5) 1) (a + 6) (nx (A 106) (F 24) (a18))) (a + 7) v19)) (u (u (u F 26 f19) 25 a19) 27 v19), 0, 0)) hc133 22 rfl ⟨⟨by omega, by omega⟩, ⟨by omega, by simp only [wr_len]; omega⟩, ⟨by omega, by omega⟩, ⟨by omega, by simp only [wr_len]; omega⟩, ⟨by omega, by omega⟩, ⟨by omega, by simp only [wr_len]; omega⟩, trivial⟩ ?_
                refine R_retv hc133 rfl rfl ⟨rfl, wr (wr (wr (wr (A 100) (a + 5) (-1)) (a + 5) 1) (a + 6) (nx (A 106) (F 24) (a18))) (a + 7) v19, f19, a19, v19, rfl, (by (try simp only [wr_len]); omega), (by omega), (by omega), (by omega), fun q hq hq9 => by rw [rd_wr_n (by omega) (by omega) (by omega), rd_wr_n (by omega) (by omega) (by omega), rd_wr_n (by omega) (by omega) (by omega), rd_wr_n (by omega) (by omega) (by omega)], ?_⟩
                have c0 : F 26 = 0 := by omega
                have c32 : nx (A 106) (F 24) (F 25) = 32 := by omega
                have eI : wD (A 106) (F 24) IFF (F 26, F 25) = (f4, a4) := by simp only [IFF, wD, hw1, hw2, hw3, hw4]
                have e2 : t2 (A 106) (F 24) (F 26, F 25) = ((f18, a18), 1) := by
                  unfold t2
                  rw [eI, if_pos (by (try dsimp only); omega)]
                  unfold fD
                  (try dsimp only)
                  rw [if_neg (by omega), hw5]
                  (try dsimp only)
                  rw [if_neg (fun z => by omega)]
                  simp only [IELD, wD, hw15, hw16, hw17, hw18]
                have e3 : t3 (A 106) (F 24) (F 26, F 25) = (1, a18) := by
                  unfold t3
                  rw [e2]
                  (try dsimp only)
                  rw [if_neg (fun z => by omega)]
                have e4 : dG (A 106) (F 24) 4 (t3 (A 106) (F 24) (F 26, F 25)) = ((f19, a19), v19) := by
                  rw [e3]
                  exact hw19
                have eS : tS (A 106) (F 24) (F 26, F 25) = (f19, a19) := by
                  unfold tS
                  rw [if_pos ⟨c0, c32⟩, e4]
                have eF : tF (A 106) (F 24) (F 26, F 25) = 1 := by
                  unfold tF
                  rw [if_pos ⟨c0, c32⟩, e2]
                have eG : tG (A 106) (F 24) (F 26, F 25) = nx (A 106) (F 24) (a18) := by
                  unfold tG
                  rw [e2]
                have eH : tH (A 106) (F 24) (F 26, F 25) = v19 := by
                  unfold tH
                  rw [e4]
                refine ⟨eS, fun z => ⟨?_, .inr ⟨?_, ?_⟩⟩⟩
                · rw [eF, rd_wr_n (by omega) (by omega) (by omega), rd_wr_n (by omega) (by omega) (by omega), rd_wr_s (by omega) (by (try simp only [wr_len]); omega)]
                · rw [eG, rd_wr_n (by omega) (by omega) (by omega), rd_wr_s (by omega) (by (try simp only [wr_len]); omega)]
                · rw [eH, rd_wr_s (by omega) (by (try simp only [wr_len]); omega)]
              · refine R_s (P := True) (f' := (73, [some (vR 88), some (vI a), some (vI 1), some (vI (nx (A 106) (F 24) (a18)))], [vI 61, vI (nx (A 106) (F 24) (a18))], LAY (u A 100 (wr (A 100) (a + 5) (-1))) (u (u (u F 27 (F 27)) 26 f18) 25 a18), 0, 0)) hc133 2 rfl trivial ?_
                refine R_ic (t := 88) hc133 rfl rfl (fun (c8 : nx (A 106) (F 24) (a18) = 61) => ?_) (fun (c8 : ¬ (nx (A 106) (F 24) (a18) = 61)) => ?_)
                · refine R_s (P := inI (a18 + 1) ∧ True) (f' := (108, [some (vR 88), some (vI a), some (vI 1), some (vI (nx (A 106) (F 24) (a18)))], [vI 4, vR 88], LAY (u A 100 (wr (A 100) (a + 5) (-1))) (u (u (u F 27 (F 27)) 26 f18) 25 (a18 + 1)), 0, 0)) hc133 9 rfl ⟨⟨by omega, by omega⟩, trivial⟩ ?_
                  refine R_cv hc133 rfl rfl (l_digs (A := (u A 100 (wr (A 100) (a + 5) (-1)))) (F := (u (u (u F 27 (F 27)) 26 f18) 25 (a18 + 1))) h24 ⟨by (show 0 ≤ a18 + 1); omega, by (have := nx_in (l := A 106) (n := F 24) (a := a18) (by omega)); (show a18 + 1 ≤ F 24); omega⟩ h106 (by show f18 = 0 ∨ f18 = 1; omega) (kk := 4) (by decide) rfl) (fun r G9 hp9 => ?_)
                  obtain ⟨rfl, f20, a20, v20, rfl, hf20, hw20, p20, q20, w20⟩ := hp9
                  have q20 : a20 ≤ F 24 := q20
                  have hw20 : dG (A 106) (F 24) 4 (f18, a18 + 1) = ((f20, a20), v20) := hw20
                  refine R_s (f' := (111, [some (vR 88), some (vI a), some (vI 1), some (vI (nx (A 106) (F 24) (a18)))], [], LAY (u A 100 (wr (A 100) (a + 5) (-1))) (u (u (u F 26 f20) 25 a20) 27 v20), 0, 0)) hc133 0 rfl trivial ?_
                  refine R_s (P := inI (a + 5) ∧ (0 ≤ a + 5 ∧ a + 5 < ((wr (A 100) (a + 5) (-1)).length : Int)) ∧ inI (a + 6) ∧ (0 ≤ a + 6 ∧ a + 6 < ((wr (wr (A 100) (a + 5) (-1)) (a + 5) 1).length : Int)) ∧ inI (a + 7) ∧ (0 ≤ a + 7 ∧ a + 7 < ((wr (wr (wr (A 100) (a + 5) (-1)) (a + 5) 1) (a + 6) (nx (A 106) (F 24) (a18))).length : Int)) ∧ True) (f' := (143, [some (vR 88), some (vI a), some (vI 1), some (vI (nx (A 106) (F 24) (a18)))], [], LAY (u A 100 (wr (wr (wr (wr (A 100) (a + 5) (-1)) (a + 5) 1) (a + 6) (nx (A 106) (F 24) (a18))) (a + 7) v20)) (u (u (u F 26 f20) 25 a20) 27 v20), 0, 0)) hc133 22 rfl ⟨⟨by omega, by omega⟩, ⟨by omega, by simp only [wr_len]; omega⟩, ⟨by omega, by omega⟩, ⟨by omega, by simp only [wr_len]; omega⟩, ⟨by omega, by omega⟩, ⟨by omega, by simp only [wr_len]; omega⟩, trivial⟩ ?_
                  refine R_retv hc133 rfl rfl ⟨rfl, wr (wr (wr (wr (A 100) (a + 5) (-1)) (a + 5) 1) (a + 6) (nx (A 106) (F 24) (a18))) (a + 7) v20, f20, a20, v20, rfl, (by (try simp only [wr_len]); omega), (by omega), (by omega), (by omega), fun q hq hq9 => by rw [rd_wr_n (by omega) (by omega) (by omega), rd_wr_n (by omega) (by omega) (by omega), rd_wr_n (by omega) (by omega) (by omega), rd_wr_n (by omega) (by omega) (by omega)], ?_⟩
                  have c0 : F 26 = 0 := by omega
                  have c32 : nx (A 106) (F 24) (F 25) = 32 := by omega
                  have eI : wD (A 106) (F 24) IFF (F 26, F 25) = (f4, a4) := by simp only [IFF, wD, hw1, hw2, hw3, hw4]
                  have e2 : t2 (A 106) (F 24) (F 26, F 25) = ((f18, a18), 1) := by
                    unfold t2
                    rw [eI, if_pos (by (try dsimp only); omega)]
                    unfold fD
                    (try dsimp only)
                    rw [if_neg (by omega), hw5]
                    (try dsimp only)
                    rw [if_neg (fun z => by omega)]
                    simp only [IELD, wD, hw15, hw16, hw17, hw18]
                  have e3 : t3 (A 106) (F 24) (F 26, F 25) = (0, a18 + 1) := by
                    unfold t3
                    rw [e2]
                    (try dsimp only)
                    rw [if_pos ⟨by omega, by omega⟩]
                  have e4 : dG (A 106) (F 24) 4 (t3 (A 106) (F 24) (F 26, F 25)) = ((f20, a20), v20) := by
                    rw [e3]
                    rw [show (0 : Int) = f18 by omega]
                    exact hw20
                  have eS : tS (A 106) (F 24) (F 26, F 25) = (f20, a20) := by
                    unfold tS
                    rw [if_pos ⟨c0, c32⟩, e4]
                  have eF : tF (A 106) (F 24) (F 26, F 25) = 1 := by
                    unfold tF
                    rw [if_pos ⟨c0, c32⟩, e2]
                  have eG : tG (A 106) (F 24) (F 26, F 25) = nx (A 106) (F 24) (a18) := by
                    unfold tG
                    rw [e2]
                  have eH : tH (A 106) (F 24) (F 26, F 25) = v20 := by
                    unfold tH
                    rw [e4]
                  refine ⟨eS, fun z => ⟨?_, .inr ⟨?_, ?_⟩⟩⟩
                  · rw [eF, rd_wr_n (by omega) (by omega) (by omega), rd_wr_n (by omega) (by omega) (by omega), rd_wr_s (by omega) (by (try simp only [wr_len]); omega)]
                  · rw [eG, rd_wr_n (by omega) (by omega) (by omega), rd_wr_s (by omega) (by (try simp only [wr_len]); omega)]
                  · rw [eH, rd_wr_s (by omega) (by (try simp only [wr_len]); omega)]
                · refine R_s (P := True) (f' := (79, [some (vR 88), some (vI a), some (vI 1), some (vI (nx (A 106) (F 24) (a18)))], [vI 60, vI (nx (A 106) (F 24) (a18))], LAY (u A 100 (wr (A 100) (a + 5) (-1))) (u (u (u F 27 (F 27)) 26 f18) 25 a18), 0, 0)) hc133 2 rfl trivial ?_
                  refine R_ic (t := 88) hc133 rfl rfl (fun (c9 : nx (A 106) (F 24) (a18) = 60) => ?_) (fun (c9 : ¬ (nx (A 106) (F 24) (a18) = 60)) => ?_)
                  · refine R_s (P := inI (a18 + 1) ∧ True) (f' := (108, [some (vR 88), some (vI a), some (vI 1), some (vI (nx (A 106) (F 24) (a18)))], [vI 4, vR 88], LAY (u A 100 (wr (A 100) (a + 5) (-1))) (u (u (u F 27 (F 27)) 26 f18) 25 (a18 + 1)), 0, 0)) hc133 9 rfl ⟨⟨by omega, by omega⟩, trivial⟩ ?_
                    refine R_cv hc133 rfl rfl (l_digs (A := (u A 100 (wr (A 100) (a + 5) (-1)))) (F := (u (u (u F 27 (F 27)) 26 f18) 25 (a18 + 1))) h24 ⟨by (show 0 ≤ a18 + 1); omega, by (have := nx_in (l := A 106) (n := F 24) (a := a18) (by omega)); (show a18 + 1 ≤ F 24); omega⟩ h106 (by show f18 = 0 ∨ f18 = 1; omega) (kk := 4) (by decide) rfl) (fun r G9 hp9 => ?_)
                    obtain ⟨rfl, f21, a21, v21, rfl, hf21, hw21, p21, q21, w21⟩ := hp9
                    have q21 : a21 ≤ F 24 := q21
                    have hw21 : dG (A 106) (F 24) 4 (f18, a18 + 1) = ((f21, a21), v21) := hw21
                    refine R_s (f' := (111, [some (vR 88), some (vI a), some (vI 1), some (vI (nx (A 106) (F 24) (a18)))], [], LAY (u A 100 (wr (A 100) (a + 5) (-1))) (u (u (u F 26 f21) 25 a21) 27 v21), 0, 0)) hc133 0 rfl trivial ?_
                    refine R_s (P := inI (a + 5) ∧ (0 ≤ a + 5 ∧ a + 5 < ((wr (A 100) (a + 5) (-1)).length : Int)) ∧ inI (a + 6) ∧ (0 ≤ a + 6 ∧ a + 6 < ((wr (wr (A 100) (a + 5) (-1)) (a + 5) 1).length : Int)) ∧ inI (a + 7) ∧ (0 ≤ a + 7 ∧ a + 7 < ((wr (wr (wr (A 100) (a + 5) (-1)) (a + 5) 1) (a + 6) (nx (A 106) (F 24) (a18))).length : Int)) ∧ True) (f' := (143, [some (vR 88), some (vI a), some (vI 1), some (vI (nx (A 106) (F 24) (a18)))], [], LAY (u A 100 (wr (wr (wr (wr (A 100) (a + 5) (-1)) (a + 5) 1) (a + 6) (nx (A 106) (F 24) (a18))) (a + 7) v21)) (u (u (u F 26 f21) 25 a21) 27 v21), 0, 0)) hc133 22 rfl ⟨⟨by omega, by omega⟩, ⟨by omega, by simp only [wr_len]; omega⟩, ⟨by omega, by omega⟩, ⟨by omega, by simp only [wr_len]; omega⟩, ⟨by omega, by omega⟩, ⟨by omega, by simp only [wr_len]; omega⟩, trivial⟩ ?_
                    refine R_retv hc133 rfl rfl ⟨rfl, wr (wr (wr (wr (A 100) (a + 5) (-1)) (a + 5) 1) (a + 6) (nx (A 106) (F 24) (a18))) (a + 7) v21, f21, a21, v21, rfl, (by (try simp only [wr_len]); omega), (by omega), (by omega), (by omega), fun q hq hq9 => by rw [rd_wr_n (by omega) (by omega) (by omega), rd_wr_n (by omega) (by omega) (by omega), rd_wr_n (by omega) (by omega) (by omega), rd_wr_n (by omega) (by omega) (by omega)], ?_⟩
                    have c0 : F 26 = 0 := by omega
                    have c32 : nx (A 106) (F 24) (F 25) = 32 := by omega
                    have eI : wD (A 106) (F 24) IFF (F 26, F 25) = (f4, a4) := by simp only [IFF, wD, hw1, hw2, hw3, hw4]
                    have e2 : t2 (A 106) (F 24) (F 26, F 25) = ((f18, a18), 1) := by
                      unfold t2
                      rw [eI, if_pos (by (try dsimp only); omega)]
                      unfold fD
                      (try dsimp only)
                      rw [if_neg (by omega), hw5]
                      (try dsimp only)
                      rw [if_neg (fun z => by omega)]
                      simp only [IELD, wD, hw15, hw16, hw17, hw18]
                    have e3 : t3 (A 106) (F 24) (F 26, F 25) = (0, a18 + 1) := by
                      unfold t3
                      rw [e2]
                      (try dsimp only)
                      rw [if_pos ⟨by omega, by omega⟩]
                    have e4 : dG (A 106) (F 24) 4 (t3 (A 106) (F 24) (F 26, F 25)) = ((f21, a21), v21) := by
                      rw [e3]
                      rw [show (0 : Int) = f18 by omega]
                      exact hw21
                    have eS : tS (A 106) (F 24) (F 26, F 25) = (f21, a21) := by
                      unfold tS
                      rw [if_pos ⟨c0, c32⟩, e4]
                    have eF : tF (A 106) (F 24) (F 26, F 25) = 1 := by
                      unfold tF
                      rw [if_pos ⟨c0, c32⟩, e2]
                    have eG : tG (A 106) (F 24) (F 26, F 25) = nx (A 106) (F 24) (a18) := by
                      unfold tG
                      rw [e2]
                    have eH : tH (A 106) (F 24) (F 26, F 25) = v21 := by
                      unfold tH
                      rw [e4]
                    refine ⟨eS, fun z => ⟨?_, .inr ⟨?_, ?_⟩⟩⟩
                    · rw [eF, rd_wr_n (by omega) (by omega) (by omega), rd_wr_n (by omega) (by omega) (by omega), rd_wr_s (by omega) (by (try simp only [wr_len]); omega)]
                    · rw [eG, rd_wr_n (by omega) (by omega) (by omega), rd_wr_s (by omega) (by (try simp only [wr_len]); omega)]
                    · rw [eH, rd_wr_s (by omega) (by (try simp only [wr_len]); omega)]
                  · refine R_s (P := True) (f' := (85, [some (vR 88), some (vI a), some (vI 1), some (vI (nx (A 106) (F 24) (a18)))], [vI 62, vI (nx (A 106) (F 24) (a18))], LAY (u A 100 (wr (A 100) (a + 5) (-1))) (u (u (u F 27 (F 27)) 26 f18) 25 a18), 0, 0)) hc133 2 rfl trivial ?_
                    refine R_ic (t := 101) hc133 rfl rfl (fun (c10 : ¬ nx (A 106) (F 24) (a18) = 62) => ?_) (fun (c10 : ¬ (¬ nx (A 106) (F 24) (a18) = 62)) => ?_)
                    · refine R_s (P := (1 = 0 ∨ 1 = 1) ∧ True) (f' := (108, [some (vR 88), some (vI a), some (vI 1), some (vI (nx (A 106) (F 24) (a18)))], [vI 4, vR 88], LAY (u A 100 (wr (A 100) (a + 5) (-1))) (u (u (u F 27 (F 27)) 25 a18) 26 1), 0, 0)) hc133 5 rfl ⟨(by omega), trivial⟩ ?_
                      refine R_cv hc133 rfl rfl (l_digs (A := (u A 100 (wr (A 100) (a + 5) (-1)))) (F := (u (u (u F 27 (F 27)) 25 a18) 26 1)) h24 ⟨by (show 0 ≤ a18); omega, by (show a18 ≤ F 24); omega⟩ h106 (by show 1 = 0 ∨ 1 = 1; omega) (kk := 4) (by decide) rfl) (fun r G9 hp9 => ?_)
                      obtain ⟨rfl, f22, a22, v22, rfl, hf22, hw22, p22, q22, w22⟩ := hp9
                      have q22 : a22 ≤ F 24 := q22
                      have hw22 : dG (A 106) (F 24) 4 (1, a18) = ((f22, a22), v22) := hw22
                      refine R_s (f' := (111, [some (vR 88), some (vI a), some (vI 1), some (vI (nx (A 106) (F 24) (a18)))], [], LAY (u A 100 (wr (A 100) (a + 5) (-1))) (u (u (u F 26 f22) 25 a22) 27 v22), 0, 0)) hc133 0 rfl trivial ?_
                      refine R_s (P := inI (a + 5) ∧ (0 ≤ a + 5 ∧ a + 5 < ((wr (A 100) (a + 5) (-1)).length : Int)) ∧ inI (a + 6) ∧ (0 ≤ a + 6 ∧ a + 6 < ((wr (wr (A 100) (a + 5) (-1)) (a + 5) 1).length : Int)) ∧ inI (a + 7) ∧ (0 ≤ a + 7 ∧ a + 7 < ((wr (wr (wr (A 100) (a + 5) (-1)) (a + 5) 1) (a + 6) (nx (A 106) (F 24) (a18))).length : Int)) ∧ True) (f' := (143, [some (vR 88), some (vI a), some (vI 1), some (vI (nx (A 106) (F 24) (a18)))], [], LAY (u A 100 (wr (wr (wr (wr (A 100) (a + 5) (-1)) (a + 5) 1) (a + 6) (nx (A 106) (F 24) (a18))) (a + 7) v22)) (u (u (u F 26 f22) 25 a22) 27 v22), 0, 0)) hc133 22 rfl ⟨⟨by omega, by omega⟩, ⟨by omega, by simp only [wr_len]; omega⟩, ⟨by omega, by omega⟩, ⟨by omega, by simp only [wr_len]; omega⟩, ⟨by omega, by omega⟩, ⟨by omega, by simp only [wr_len]; omega⟩, trivial⟩ ?_
                      refine R_retv hc133 rfl rfl ⟨rfl, wr (wr (wr (wr (A 100) (a + 5) (-1)) (a + 5) 1) (a + 6) (nx (A 106) (F 24) (a18))) (a + 7) v22, f22, a22, v22, rfl, (by (try simp only [wr_len]); omega), (by omega), (by omega), (by omega), fun q hq hq9 => by rw [rd_wr_n (by omega) (by omega) (by omega), rd_wr_n (by omega) (by omega) (by omega), rd_wr_n (by omega) (by omega) (by omega), rd_wr_n (by omega) (by omega) (by omega)], ?_⟩
                      have c0 : F 26 = 0 := by omega
                      have c32 : nx (A 106) (F 24) (F 25) = 32 := by omega
                      have eI : wD (A 106) (F 24) IFF (F 26, F 25) = (f4, a4) := by simp only [IFF, wD, hw1, hw2, hw3, hw4]
                      have e2 : t2 (A 106) (F 24) (F 26, F 25) = ((f18, a18), 1) := by
                        unfold t2
                        rw [eI, if_pos (by (try dsimp only); omega)]
                        unfold fD
                        (try dsimp only)
                        rw [if_neg (by omega), hw5]
                        (try dsimp only)
                        rw [if_neg (fun z => by omega)]
                        simp only [IELD, wD, hw15, hw16, hw17, hw18]
                      have e3 : t3 (A 106) (F 24) (F 26, F 25) = (1, a18) := by
                        unfold t3
                        rw [e2]
                        (try dsimp only)
                        rw [if_neg (fun z => by omega)]
                      have e4 : dG (A 106) (F 24) 4 (t3 (A 106) (F 24) (F 26, F 25)) = ((f22, a22), v22) := by
                        rw [e3]
                        exact hw22
                      have eS : tS (A 106) (F 24) (F 26, F 25) = (f22, a22) := by
                        unfold tS
                        rw [if_pos ⟨c0, c32⟩, e4]
                      have eF : tF (A 106) (F 24) (F 26, F 25) = 1 := by
                        unfold tF
                        rw [if_pos ⟨c0, c32⟩, e2]
                      have eG : tG (A 106) (F 24) (F 26, F 25) = nx (A 106) (F 24) (a18) := by
                        unfold tG
                        rw [e2]
                      have eH : tH (A 106) (F 24) (F 26, F 25) = v22 := by
                        unfold tH
                        rw [e4]
                      refine ⟨eS, fun z => ⟨?_, .inr ⟨?_, ?_⟩⟩⟩
                      · rw [eF, rd_wr_n (by omega) (by omega) (by omega), rd_wr_n (by omega) (by omega) (by omega), rd_wr_s (by omega) (by (try simp only [wr_len]); omega)]
                      · rw [eG, rd_wr_n (by omega) (by omega) (by omega), rd_wr_s (by omega) (by (try simp only [wr_len]); omega)]
                      · rw [eH, rd_wr_s (by omega) (by (try simp only [wr_len]); omega)]
                    · refine R_s (P := inI (a18 + 1) ∧ True) (f' := (108, [some (vR 88), some (vI a), some (vI 1), some (vI (nx (A 106) (F 24) (a18)))], [vI 4, vR 88], LAY (u A 100 (wr (A 100) (a + 5) (-1))) (u (u (u F 27 (F 27)) 26 f18) 25 (a18 + 1)), 0, 0)) hc133 9 rfl ⟨⟨by omega, by omega⟩, trivial⟩ ?_
                      refine R_cv hc133 rfl rfl (l_digs (A := (u A 100 (wr (A 100) (a + 5) (-1)))) (F := (u (u (u F 27 (F 27)) 26 f18) 25 (a18 + 1))) h24 ⟨by (show 0 ≤ a18 + 1); omega, by (have := nx_in (l := A 106) (n := F 24) (a := a18) (by omega)); (show a18 + 1 ≤ F 24); omega⟩ h106 (by show f18 = 0 ∨ f18 = 1; omega) (kk := 4) (by decide) rfl) (fun r G9 hp9 => ?_)
                      obtain ⟨rfl, f23, a23, v23, rfl, hf23, hw23, p23, q23, w23⟩ := hp9
                      have q23 : a23 ≤ F 24 := q23
                      have hw23 : dG (A 106) (F 24) 4 (f18, a18 + 1) = ((f23, a23), v23) := hw23
                      refine R_s (f' := (111, [some (vR 88), some (vI a), some (vI 1), some (vI (nx (A 106) (F 24) (a18)))], [], LAY (u A 100 (wr (A 100) (a + 5) (-1))) (u (u (u F 26 f23) 25 a23) 27 v23), 0, 0)) hc133 0 rfl trivial ?_
                      refine R_s (P := inI (a + 5) ∧ (0 ≤ a + 5 ∧ a + 5 < ((wr (A 100) (a + 5) (-1)).length : Int)) ∧ inI (a + 6) ∧ (0 ≤ a + 6 ∧ a + 6 < ((wr (wr (A 100) (a + 5) (-1)) (a + 5) 1).length : Int)) ∧ inI (a + 7) ∧ (0 ≤ a + 7 ∧ a + 7 < ((wr (wr (wr (A 100) (a + 5) (-1)) (a + 5) 1) (a + 6) (nx (A 106) (F 24) (a18))).length : Int)) ∧ True) (f' := (143, [some (vR 88), some (vI a), some (vI 1), some (vI (nx (A 106) (F 24) (a18)))], [], LAY (u A 100 (wr (wr (wr (wr (A 100) (a + 5) (-1)) (a + 5) 1) (a + 6) (nx (A 106) (F 24) (a18))) (a + 7) v23)) (u (u (u F 26 f23) 25 a23) 27 v23), 0, 0)) hc133 22 rfl ⟨⟨by omega, by omega⟩, ⟨by omega, by simp only [wr_len]; omega⟩, ⟨by omega, by omega⟩, ⟨by omega, by simp only [wr_len]; omega⟩, ⟨by omega, by omega⟩, ⟨by omega, by simp only [wr_len]; omega⟩, trivial⟩ ?_
                      refine R_retv hc133 rfl rfl ⟨rfl, wr (wr (wr (wr (A 100) (a + 5) (-1)) (a + 5) 1) (a + 6) (nx (A 106) (F 24) (a18))) (a + 7) v23, f23, a23, v23, rfl, (by (try simp only [wr_len]); omega), (by omega), (by omega), (by omega), fun q hq hq9 => by rw [rd_wr_n (by omega) (by omega) (by omega), rd_wr_n (by omega) (by omega) (by omega), rd_wr_n (by omega) (by omega) (by omega), rd_wr_n (by omega) (by omega) (by omega)], ?_⟩
                      have c0 : F 26 = 0 := by omega
                      have c32 : nx (A 106) (F 24) (F 25) = 32 := by omega
                      have eI : wD (A 106) (F 24) IFF (F 26, F 25) = (f4, a4) := by simp only [IFF, wD, hw1, hw2, hw3, hw4]
                      have e2 : t2 (A 106) (F 24) (F 26, F 25) = ((f18, a18), 1) := by
                        unfold t2
                        rw [eI, if_pos (by (try dsimp only); omega)]
                        unfold fD
                        (try dsimp only)
                        rw [if_neg (by omega), hw5]
                        (try dsimp only)
                        rw [if_neg (fun z => by omega)]
                        simp only [IELD, wD, hw15, hw16, hw17, hw18]
                      have e3 : t3 (A 106) (F 24) (F 26, F 25) = (0, a18 + 1) := by
                        unfold t3
                        rw [e2]
                        (try dsimp only)
                        rw [if_pos ⟨by omega, by omega⟩]
                      have e4 : dG (A 106) (F 24) 4 (t3 (A 106) (F 24) (F 26, F 25)) = ((f23, a23), v23) := by
                        rw [e3]
                        rw [show (0 : Int) = f18 by omega]
                        exact hw23
                      have eS : tS (A 106) (F 24) (F 26, F 25) = (f23, a23) := by
                        unfold tS
                        rw [if_pos ⟨c0, c32⟩, e4]
                      have eF : tF (A 106) (F 24) (F 26, F 25) = 1 := by
                        unfold tF
                        rw [if_pos ⟨c0, c32⟩, e2]
                      have eG : tG (A 106) (F 24) (F 26, F 25) = nx (A 106) (F 24) (a18) := by
                        unfold tG
                        rw [e2]
                      have eH : tH (A 106) (F 24) (F 26, F 25) = v23 := by
                        unfold tH
                        rw [e4]
                      refine ⟨eS, fun z => ⟨?_, .inr ⟨?_, ?_⟩⟩⟩
                      · rw [eF, rd_wr_n (by omega) (by omega) (by omega), rd_wr_n (by omega) (by omega) (by omega), rd_wr_s (by omega) (by (try simp only [wr_len]); omega)]
                      · rw [eG, rd_wr_n (by omega) (by omega) (by omega), rd_wr_s (by omega) (by (try simp only [wr_len]); omega)]
                      · rw [eH, rd_wr_s (by omega) (by (try simp only [wr_len]); omega)]
            · refine R_s (P := True) (f' := (62, [some (vR 88)], [vI 114, vI 97, vI 101, vR 88], LAY (u A 100 (wr (A 100) (a + 5) (-1))) (u (u (u F 27 (F 27)) 26 f5) 25 a5), 0, 0)) hc132 4 rfl trivial ?_
              refine R_cv hc132 rfl rfl ?_ (fun r G h => h)
              refine R_s (P := True) (f' := (2, [some (vR 88), some (vI 101), some (vI 97), some (vI 114)], [vI 101, vR 88], LAY (u A 100 (wr (A 100) (a + 5) (-1))) (u (u (u F 27 (F 27)) 26 f5) 25 a5), 0, 0)) hc129 2 rfl trivial ?_
              refine R_cv hc129 rfl rfl (l_eats (A := (u A 100 (wr (A 100) (a + 5) (-1)))) (F := (u (u (u F 27 (F 27)) 26 f5) 25 a5)) h24 ⟨by (show 0 ≤ a5); omega, by (show a5 ≤ F 24); omega⟩ h106 (by show f5 = 0 ∨ f5 = 1; omega) (c := 101) (by decide)) (fun r G9 hp9 => ?_)
              obtain ⟨rfl, f24, a24, rfl, hf24, hw24, p24, q24⟩ := hp9
              have q24 : a24 ≤ F 24 := q24
              have hw24 : eE (A 106) (F 24) 101 (f5, a5) = (f24, a24) := hw24
              refine R_s (f' := (5, [some (vR 88), some (vI 101), some (vI 97), some (vI 114)], [], LAY (u A 100 (wr (A 100) (a + 5) (-1))) (u (u (u F 27 (F 27)) 26 f24) 25 a24), 0, 0)) hc129 0 rfl trivial ?_
              refine R_s (P := True) (f' := (7, [some (vR 88), some (vI 101), some (vI 97), some (vI 114)], [vI 97, vR 88], LAY (u A 100 (wr (A 100) (a + 5) (-1))) (u (u (u F 27 (F 27)) 26 f24) 25 a24), 0, 0)) hc129 2 rfl trivial ?_
              refine R_cv hc129 rfl rfl (l_eats (A := (u A 100 (wr (A 100) (a + 5) (-1)))) (F := (u (u (u F 27 (F 27)) 26 f24) 25 a24)) h24 ⟨by (show 0 ≤ a24); omega, by (show a24 ≤ F 24); omega⟩ h106 (by show f24 = 0 ∨ f24 = 1; omega) (c := 97) (by decide)) (fun r G9 hp9 => ?_)
              obtain ⟨rfl, f25, a25, rfl, hf25, hw25, p25, q25⟩ := hp9
              have q25 : a25 ≤ F 24 := q25
              have hw25 : eE (A 106) (F 24) 97 (f24, a24) = (f25, a25) := hw25
              refine R_s (f' := (10, [some (vR 88), some (vI 101), some (vI 97), some (vI 114)], [], LAY (u A 100 (wr (A 100) (a + 5) (-1))) (u (u (u F 27 (F 27)) 26 f25) 25 a25), 0, 0)) hc129 0 rfl trivial ?_
              refine R_s (P := True) (f' := (12, [some (vR 88), some (vI 101), some (vI 97), some (vI 114)], [vI 114, vR 88], LAY (u A 100 (wr (A 100) (a + 5) (-1))) (u (u (u F 27 (F 27)) 26 f25) 25 a25), 0, 0)) hc129 2 rfl trivial ?_
              refine R_cv hc129 rfl rfl (l_eats (A := (u A 100 (wr (A 100) (a + 5) (-1)))) (F := (u (u (u F 27 (F 27)) 26 f25) 25 a25)) h24 ⟨by (show 0 ≤ a25); omega, by (show a25 ≤ F 24); omega⟩ h106 (by show f25 = 0 ∨ f25 = 1; omega) (c := 114) (by decide)) (fun r G9 hp9 => ?_)
              obtain ⟨rfl, f26, a26, rfl, hf26, hw26, p26, q26⟩ := hp9
              have q26 : a26 ≤ F 24 := q26
              have hw26 : eE (A 106) (F 24) 114 (f25, a25) = (f26, a26) := hw26
              refine R_s (f' := (15, [some (vR 88), some (vI 101), some (vI 97), some (vI 114)], [], LAY (u A 100 (wr (A 100) (a + 5) (-1))) (u (u (u F 27 (F 27)) 26 f26) 25 a26), 0, 0)) hc129 0 rfl trivial ?_
              refine R_retv hc129 rfl rfl ?_
              refine R_s (f' := (65, [some (vR 88)], [], LAY (u A 100 (wr (A 100) (a + 5) (-1))) (u (u (u F 27 (F 27)) 26 f26) 25 a26), 0, 0)) hc132 0 rfl trivial ?_
              refine R_s (P := True) (f' := (66, [some (vR 88)], [vI 0], LAY (u A 100 (wr (A 100) (a + 5) (-1))) (u (u (u F 27 (F 27)) 26 f26) 25 a26), 0, 0)) hc132 1 rfl trivial ?_
              refine R_reti hc132 rfl rfl ?_
              refine R_s (f' := (57, [some (vR 88), some (vI a), none, none], [vI 0], LAY (u A 100 (wr (A 100) (a + 5) (-1))) (u (u (u F 27 (F 27)) 26 f26) 25 a26), 0, 0)) hc133 0 rfl trivial ?_
              refine R_s (P := True) (f' := (59, [some (vR 88), some (vI a), some (vI 0), none], [vR 88], LAY (u A 100 (wr (A 100) (a + 5) (-1))) (u (u (u F 27 (F 27)) 26 f26) 25 a26), 0, 0)) hc133 2 rfl trivial ?_
              refine R_cv hc133 rfl rfl (l_here (A := (u A 100 (wr (A 100) (a + 5) (-1)))) (F := (u (u (u F 27 (F 27)) 26 f26) 25 a26)) h24 ⟨by (show 0 ≤ a26); omega, by (show a26 ≤ F 24); omega⟩ h106) (fun r G9 hp9 => ?_)
              obtain ⟨e1, rfl⟩ := hp9
              have e2 : r = some (vI (nx (A 106) (F 24) (a26))) := e1
              clear e1
              subst e2
              refine R_s (f' := (62, [some (vR 88), some (vI a), some (vI 0), none], [vI (nx (A 106) (F 24) (a26))], LAY (u A 100 (wr (A 100) (a + 5) (-1))) (u (u (u F 27 (F 27)) 26 f26) 25 a26), 0, 0)) hc133 0 rfl trivial ?_
              refine R_s (P := True) (f' := (67, [some (vR 88), some (vI a), some (vI 0), some (vI (nx (A 106) (F 24) (a26)))], [vI f26], LAY (u A 100 (wr (A 100) (a + 5) (-1))) (u (u (u F 27 (F 27)) 26 f26) 25 a26), 0, 0)) hc133 3 rfl trivial ?_
              refine R_if (t := 101) hc133 rfl rfl (fun (c7 : ¬ f26 = 0) => ?_) (fun (c7 : ¬ (¬ f26 = 0)) => ?_)
              · refine R_s (P := (1 = 0 ∨ 1 = 1) ∧ True) (f' := (108, [some (vR 88), some (vI a), some (vI 0), some (vI (nx (A 106) (F 24) (a26)))], [vI 4, vR 88], LAY (u A 100 (wr (A 100) (a + 5) (-1))) (u (u (u F 27 (F 27)) 25 a26) 26 1), 0, 0)) hc133 5 rfl ⟨(by omega), trivial⟩ ?_
                refine R_cv hc133 rfl rfl (l_digs (A := (u A 100 (wr (A 100) (a + 5) (-1)))) (F := (u (u (u F 27 (F 27)) 25 a26) 26 1)) h24 ⟨by (show 0 ≤ a26); omega, by (show a26 ≤ F 24); omega⟩ h106 (by show 1 = 0 ∨ 1 = 1; omega) (kk := 4) (by decide) rfl) (fun r G9 hp9 => ?_)
                obtain ⟨rfl, f27, a27, v27, rfl, hf27, hw27, p27, q27, w27⟩ := hp9
                have q27 : a27 ≤ F 24 := q27
                have hw27 : dG (A 106) (F 24) 4 (1, a26) = ((f27, a27), v27) := hw27
                refine R_s (f' := (111, [some (vR 88), some (vI a), some (vI 0), some (vI (nx (A 106) (F 24) (a26)))], [], LAY (u A 100 (wr (A 100) (a + 5) (-1))) (u (u (u F 26 f27) 25 a27) 27 v27), 0, 0)) hc133 0 rfl trivial ?_
                refine R_s (P := inI (a + 5) ∧ (0 ≤ a + 5 ∧ a + 5 < ((wr (A 100) (a + 5) (-1)).length : Int)) ∧ inI (a + 6) ∧ (0 ≤ a + 6 ∧ a + 6 < ((wr (wr (A 100) (a + 5) (-1)) (a + 5) 0).length : Int)) ∧ inI (a + 7) ∧ (0 ≤ a + 7 ∧ a + 7 < ((wr (wr (wr (A 100) (a + 5) (-1)) (a + 5) 0) (a + 6) (nx (A 106) (F 24) (a26))).length : Int)) ∧ True) (f' := (143, [some (vR 88), some (vI a), some (vI 0), some (vI (nx (A 106) (F 24) (a26)))], [], LAY (u A 100 (wr (wr (wr (wr (A 100) (a + 5) (-1)) (a + 5) 0) (a + 6) (nx (A 106) (F 24) (a26))) (a + 7) v27)) (u (u (u F 26 f27) 25 a27) 27 v27), 0, 0)) hc133 22 rfl ⟨⟨by omega, by omega⟩, ⟨by omega, by simp only [wr_len]; omega⟩, ⟨by omega, by omega⟩, ⟨by omega, by simp only [wr_len]; omega⟩, ⟨by omega, by omega⟩, ⟨by omega, by simp only [wr_len]; omega⟩, trivial⟩ ?_
                refine R_retv hc133 rfl rfl ⟨rfl, wr (wr (wr (wr (A 100) (a + 5) (-1)) (a + 5) 0) (a + 6) (nx (A 106) (F 24) (a26))) (a + 7) v27, f27, a27, v27, rfl, (by (try simp only [wr_len]); omega), (by omega), (by omega), (by omega), fun q hq hq9 => by rw [rd_wr_n (by omega) (by omega) (by omega), rd_wr_n (by omega) (by omega) (by omega), rd_wr_n (by omega) (by omega) (by omega), rd_wr_n (by omega) (by omega) (by omega)], ?_⟩
                have c0 : F 26 = 0 := by omega
                have c32 : nx (A 106) (F 24) (F 25) = 32 := by omega
                have eI : wD (A 106) (F 24) IFF (F 26, F 25) = (f4, a4) := by simp only [IFF, wD, hw1, hw2, hw3, hw4]
                have e2 : t2 (A 106) (F 24) (F 26, F 25) = ((f26, a26), 0) := by
                  unfold t2
                  rw [eI, if_pos (by (try dsimp only); omega)]
                  unfold fD
                  (try dsimp only)
                  rw [if_neg (by omega), hw5]
                  (try dsimp only)
                  rw [if_pos ⟨by omega, by omega⟩]
                  simp only [EAR, wD, hw24, hw25, hw26]
                have e3 : t3 (A 106) (F 24) (F 26, F 25) = (1, a26) := by
                  unfold t3
                  rw [e2]
                  (try dsimp only)
                  rw [if_neg (fun z => by omega)]
                have e4 : dG (A 106) (F 24) 4 (t3 (A 106) (F 24) (F 26, F 25)) = ((f27, a27), v27) := by
                  rw [e3]
                  exact hw27
                have eS : tS (A 106) (F 24) (F 26, F 25) = (f27, a27) := by
                  unfold tS
                  rw [if_pos ⟨c0, c32⟩, e4]
                have eF : tF (A 106) (F 24) (F 26, F 25) = 0 := by
                  unfold tF
                  rw [if_pos ⟨c0, c32⟩, e2]
                have eG : tG (A 106) (F 24) (F 26, F 25) = nx (A 106) (F 24) (a26) := by
                  unfold tG
                  rw [e2]
                have eH : tH (A 106) (F 24) (F 26, F 25) = v27 := by
                  unfold tH
                  rw [e4]
                refine ⟨eS, fun z => ⟨?_, .inr ⟨?_, ?_⟩⟩⟩
                · rw [eF, rd_wr_n (by omega) (by omega) (by omega), rd_wr_n (by omega) (by omega) (by omega), rd_wr_s (by omega) (by (try simp only [wr_len]); omega)]
                · rw [eG, rd_wr_n (by omega) (by omega) (by omega), rd_wr_s (by omega) (by (try simp only [wr_len]); omega)]
                · rw [eH, rd_wr_s (by omega) (by (try simp only [wr_len]); omega)]
              · refine R_s (P := True) (f' := (73, [some (vR 88), some (vI a), some (vI 0), some (vI (nx (A 106) (F 24) (a26)))], [vI 61, vI (nx (A 106) (F 24) (a26))], LAY (u A 100 (wr (A 100) (a + 5) (-1))) (u (u (u F 27 (F 27)) 26 f26) 25 a26), 0, 0)) hc133 2 rfl trivial ?_
                refine R_ic (t := 88) hc133 rfl rfl (fun (c8 : nx (A 106) (F 24) (a26) = 61) => ?_) (fun (c8 : ¬ (nx (A 106) (F 24) (a26) = 61)) => ?_)
                · refine R_s (P := inI (a26 + 1) ∧ True) (f' := (108, [some (vR 88), some (vI a), some (vI 0), some (vI (nx (A 106) (F 24) (a26)))], [vI 4, vR 88], LAY (u A 100 (wr (A 100) (a + 5) (-1))) (u (u (u F 27 (F 27)) 26 f26) 25 (a26 + 1)), 0, 0)) hc133 9 rfl ⟨⟨by omega, by omega⟩, trivial⟩ ?_
                  refine R_cv hc133 rfl rfl (l_digs (A := (u A 100 (wr (A 100) (a + 5) (-1)))) (F := (u (u (u F 27 (F 27)) 26 f26) 25 (a26 + 1))) h24 ⟨by (show 0 ≤ a26 + 1); omega, by (have := nx_in (l := A 106) (n := F 24) (a := a26) (by omega)); (show a26 + 1 ≤ F 24); omega⟩ h106 (by show f26 = 0 ∨ f26 = 1; omega) (kk := 4) (by decide) rfl) (fun r G9 hp9 => ?_)
                  obtain ⟨rfl, f28, a28, v28, rfl, hf28, hw28, p28, q28, w28⟩ := hp9
                  have q28 : a28 ≤ F 24 := q28
                  have hw28 : dG (A 106) (F 24) 4 (f26, a26 + 1) = ((f28, a28), v28) := hw28
                  refine R_s (f' := (111, [some (vR 88), some (vI a), some (vI 0), some (vI (nx (A 106) (F 24) (a26)))], [], LAY (u A 100 (wr (A 100) (a + 5) (-1))) (u (u (u F 26 f28) 25 a28) 27 v28), 0, 0)) hc133 0 rfl trivial ?_
                  refine R_s (P := inI (a + 5) ∧ (0 ≤ a + 5 ∧ a + 5 < ((wr (A 100) (a + 5) (-1)).length : Int)) ∧ inI (a + 6) ∧ (0 ≤ a + 6 ∧ a + 6 < ((wr (wr (A 100) (a + 5) (-1)) (a + 5) 0).length : Int)) ∧ inI (a + 7) ∧ (0 ≤ a + 7 ∧ a + 7 < ((wr (wr (wr (A 100) (a + 5) (-1)) (a + 5) 0) (a + 6) (nx (A 106) (F 24) (a26))).length : Int)) ∧ True) (f' := (143, [some (vR 88), some (vI a), some (vI 0), some (vI (nx (A 106) (F 24) (a26)))], [], LAY (u A 100 (wr (wr (wr (wr (A 100) (a + 5) (-1)) (a + 5) 0) (a + 6) (nx (A 106) (F 24) (a26))) (a + 7) v28)) (u (u (u F 26 f28) 25 a28) 27 v28), 0, 0)) hc133 22 rfl ⟨⟨by omega, by omega⟩, ⟨by omega, by simp only [wr_len]; omega⟩, ⟨by omega, by omega⟩, ⟨by omega, by simp only [wr_len]; omega⟩, ⟨by omega, by omega⟩, ⟨by omega, by simp only [wr_len]; omega⟩, trivial⟩ ?_
                  refine R_retv hc133 rfl rfl ⟨rfl, wr (wr (wr (wr (A 100) (a + 5) (-1)) (a + 5) 0) (a + 6) (nx (A 106) (F 24) (a26))) (a + 7) v28, f28, a28, v28, rfl, (by (try simp only [wr_len]); omega), (by omega), (by omega), (by omega), fun q hq hq9 => by rw [rd_wr_n (by omega) (by omega) (by omega), rd_wr_n (by omega) (by omega) (by omega), rd_wr_n (by omega) (by omega) (by omega), rd_wr_n (by omega) (by omega) (by omega)], ?_⟩
                  have c0 : F 26 = 0 := by omega
                  have c32 : nx (A 106) (F 24) (F 25) = 32 := by omega
                  have eI : wD (A 106) (F 24) IFF (F 26, F 25) = (f4, a4) := by simp only [IFF, wD, hw1, hw2, hw3, hw4]
                  have e2 : t2 (A 106) (F 24) (F 26, F 25) = ((f26, a26), 0) := by
                    unfold t2
                    rw [eI, if_pos (by (try dsimp only); omega)]
                    unfold fD
                    (try dsimp only)
                    rw [if_neg (by omega), hw5]
                    (try dsimp only)
                    rw [if_pos ⟨by omega, by omega⟩]
                    simp only [EAR, wD, hw24, hw25, hw26]
                  have e3 : t3 (A 106) (F 24) (F 26, F 25) = (0, a26 + 1) := by
                    unfold t3
                    rw [e2]
                    (try dsimp only)
                    rw [if_pos ⟨by omega, by omega⟩]
                  have e4 : dG (A 106) (F 24) 4 (t3 (A 106) (F 24) (F 26, F 25)) = ((f28, a28), v28) := by
                    rw [e3]
                    rw [show (0 : Int) = f26 by omega]
                    exact hw28
                  have eS : tS (A 106) (F 24) (F 26, F 25) = (f28, a28) := by
                    unfold tS
                    rw [if_pos ⟨c0, c32⟩, e4]
                  have eF : tF (A 106) (F 24) (F 26, F 25) = 0 := by
                    unfold tF
                    rw [if_pos ⟨c0, c32⟩, e2]
                  have eG : tG (A 106) (F 24) (F 26, F 25) = nx (A 106) (F 24) (a26) := by
                    unfold tG
                    rw [e2]
                  have eH : tH (A 106) (F 24) (F 26, F 25) = v28 := by
                    unfold tH
                    rw [e4]
                  refine ⟨eS, fun z => ⟨?_, .inr ⟨?_, ?_⟩⟩⟩
                  · rw [eF, rd_wr_n (by omega) (by omega) (by omega), rd_wr_n (by omega) (by omega) (by omega), rd_wr_s (by omega) (by (try simp only [wr_len]); omega)]
                  · rw [eG, rd_wr_n (by omega) (by omega) (by omega), rd_wr_s (by omega) (by (try simp only [wr_len]); omega)]
                  · rw [eH, rd_wr_s (by omega) (by (try simp only [wr_len]); omega)]
                · refine R_s (P := True) (f' := (79, [some (vR 88), some (vI a), some (vI 0), some (vI (nx (A 106) (F 24) (a26)))], [vI 60, vI (nx (A 106) (F 24) (a26))], LAY (u A 100 (wr (A 100) (a + 5) (-1))) (u (u (u F 27 (F 27)) 26 f26) 25 a26), 0, 0)) hc133 2 rfl trivial ?_
                  refine R_ic (t := 88) hc133 rfl rfl (fun (c9 : nx (A 106) (F 24) (a26) = 60) => ?_) (fun (c9 : ¬ (nx (A 106) (F 24) (a26) = 60)) => ?_)
                  · refine R_s (P := inI (a26 + 1) ∧ True) (f' := (108, [some (vR 88), some (vI a), some (vI 0), some (vI (nx (A 106) (F 24) (a26)))], [vI 4, vR 88], LAY (u A 100 (wr (A 100) (a + 5) (-1))) (u (u (u F 27 (F 27)) 26 f26) 25 (a26 + 1)), 0, 0)) hc133 9 rfl ⟨⟨by omega, by omega⟩, trivial⟩ ?_
                    refine R_cv hc133 rfl rfl (l_digs (A := (u A 100 (wr (A 100) (a + 5) (-1)))) (F := (u (u (u F 27 (F 27)) 26 f26) 25 (a26 + 1))) h24 ⟨by (show 0 ≤ a26 + 1); omega, by (have := nx_in (l := A 106) (n := F 24) (a := a26) (by omega)); (show a26 + 1 ≤ F 24); omega⟩ h106 (by show f26 = 0 ∨ f26 = 1; omega) (kk := 4) (by decide) rfl) (fun r G9 hp9 => ?_)
                    obtain ⟨rfl, f29, a29, v29, rfl, hf29, hw29, p29, q29, w29⟩ := hp9
                    have q29 : a29 ≤ F 24 := q29
                    have hw29 : dG (A 106) (F 24) 4 (f26, a26 + 1) = ((f29, a29), v29) := hw29
                    refine R_s (f' := (111, [some (vR 88), some (vI a), some (vI 0), some (vI (nx (A 106) (F 24) (a26)))], [], LAY (u A 100 (wr (A 100) (a + 5) (-1))) (u (u (u F 26 f29) 25 a29) 27 v29), 0, 0)) hc133 0 rfl trivial ?_
                    refine R_s (P := inI (a + 5) ∧ (0 ≤ a + 5 ∧ a + 5 < ((wr (A 100) (a + 5) (-1)).length : Int)) ∧ inI (a + 6) ∧ (0 ≤ a + 6 ∧ a + 6 < ((wr (wr (A 100) (a + 5) (-1)) (a + 5) 0).length : Int)) ∧ inI (a + 7) ∧ (0 ≤ a + 7 ∧ a + 7 < ((wr (wr (wr (A 100) (a + 5) (-1)) (a + 5) 0) (a + 6) (nx (A 106) (F 24) (a26))).length : Int)) ∧ True) (f' := (143, [some (vR 88), some (vI a), some (vI 0), some (vI (nx (A 106) (F 24) (a26)))], [], LAY (u A 100 (wr (wr (wr (wr (A 100) (a + 5) (-1)) (a + 5) 0) (a + 6) (nx (A 106) (F 24) (a26))) (a + 7) v29)) (u (u (u F 26 f29) 25 a29) 27 v29), 0, 0)) hc133 22 rfl ⟨⟨by omega, by omega⟩, ⟨by omega, by simp only [wr_len]; omega⟩, ⟨by omega, by omega⟩, ⟨by omega, by simp only [wr_len]; omega⟩, ⟨by omega, by omega⟩, ⟨by omega, by simp only [wr_len]; omega⟩, trivial⟩ ?_
                    refine R_retv hc133 rfl rfl ⟨rfl, wr (wr (wr (wr (A 100) (a + 5) (-1)) (a + 5) 0) (a + 6) (nx (A 106) (F 24) (a26))) (a + 7) v29, f29, a29, v29, rfl, (by (try simp only [wr_len]); omega), (by omega), (by omega), (by omega), fun q hq hq9 => by rw [rd_wr_n (by omega) (by omega) (by omega), rd_wr_n (by omega) (by omega) (by omega), rd_wr_n (by omega) (by omega) (by omega), rd_wr_n (by omega) (by omega) (by omega)], ?_⟩
                    have c0 : F 26 = 0 := by omega
                    have c32 : nx (A 106) (F 24) (F 25) = 32 := by omega
                    have eI : wD (A 106) (F 24) IFF (F 26, F 25) = (f4, a4) := by simp only [IFF, wD, hw1, hw2, hw3, hw4]
                    have e2 : t2 (A 106) (F 24) (F 26, F 25) = ((f26, a26), 0) := by
                      unfold t2
                      rw [eI, if_pos (by (try dsimp only); omega)]
                      unfold fD
                      (try dsimp only)
                      rw [if_neg (by omega), hw5]
                      (try dsimp only)
                      rw [if_pos ⟨by omega, by omega⟩]
                      simp only [EAR, wD, hw24, hw25, hw26]
                    have e3 : t3 (A 106) (F 24) (F 26, F 25) = (0, a26 + 1) := by
                      unfold t3
                      rw [e2]
                      (try dsimp only)
                      rw [if_pos ⟨by omega, by omega⟩]
                    have e4 : dG (A 106) (F 24) 4 (t3 (A 106) (F 24) (F 26, F 25)) = ((f29, a29), v29) := by
                      rw [e3]
                      rw [show (0 : Int) = f26 by omega]
                      exact hw29
                    have eS : tS (A 106) (F 24) (F 26, F 25) = (f29, a29) := by
                      unfold tS
                      rw [if_pos ⟨c0, c32⟩, e4]
                    have eF : tF (A 106) (F 24) (F 26, F 25) = 0 := by
                      unfold tF
                      rw [if_pos ⟨c0, c32⟩, e2]
                    have eG : tG (A 106) (F 24) (F 26, F 25) = nx (A 106) (F 24) (a26) := by
                      unfold tG
                      rw [e2]
                    have eH : tH (A 106) (F 24) (F 26, F 25) = v29 := by
                      unfold tH
                      rw [e4]
                    refine ⟨eS, fun z => ⟨?_, .inr ⟨?_, ?_⟩⟩⟩
                    · rw [eF, rd_wr_n (by omega) (by omega) (by omega), rd_wr_n (by omega) (by omega) (by omega), rd_wr_s (by omega) (by (try simp only [wr_len]); omega)]
                    · rw [eG, rd_wr_n (by omega) (by omega) (by omega), rd_wr_s (by omega) (by (try simp only [wr_len]); omega)]
                    · rw [eH, rd_wr_s (by omega) (by (try simp only [wr_len]); omega)]
                  · refine R_s (P := True) (f' := (85, [some (vR 88), some (vI a), some (vI 0), some (vI (nx (A 106) (F 24) (a26)))], [vI 62, vI (nx (A 106) (F 24) (a26))], LAY (u A 100 (wr (A 100) (a + 5) (-1))) (u (u (u F 27 (F 27)) 26 f26) 25 a26), 0, 0)) hc133 2 rfl trivial ?_
                    refine R_ic (t := 101) hc133 rfl rfl (fun (c10 : ¬ nx (A 106) (F 24) (a26) = 62) => ?_) (fun (c10 : ¬ (¬ nx (A 106) (F 24) (a26) = 62)) => ?_)
                    · refine R_s (P := (1 = 0 ∨ 1 = 1) ∧ True) (f' := (108, [some (vR 88), some (vI a), some (vI 0), some (vI (nx (A 106) (F 24) (a26)))], [vI 4, vR 88], LAY (u A 100 (wr (A 100) (a + 5) (-1))) (u (u (u F 27 (F 27)) 25 a26) 26 1), 0, 0)) hc133 5 rfl ⟨(by omega), trivial⟩ ?_
                      refine R_cv hc133 rfl rfl (l_digs (A := (u A 100 (wr (A 100) (a + 5) (-1)))) (F := (u (u (u F 27 (F 27)) 25 a26) 26 1)) h24 ⟨by (show 0 ≤ a26); omega, by (show a26 ≤ F 24); omega⟩ h106 (by show 1 = 0 ∨ 1 = 1; omega) (kk := 4) (by decide) rfl) (fun r G9 hp9 => ?_)
                      obtain ⟨rfl, f30, a30, v30, rfl, hf30, hw30, p30, q30, w30⟩ := hp9
                      have q30 : a30 ≤ F 24 := q30
                      have hw30 : dG (A 106) (F 24) 4 (1, a26) = ((f30, a30), v30) := hw30
                      refine R_s (f' := (111, [some (vR 88), some (vI a), some (vI 0), some (vI (nx (A 106) (F 24) (a26)))], [], LAY (u A 100 (wr (A 100) (a + 5) (-1))) (u (u (u F 26 f30) 25 a30) 27 v30), 0, 0)) hc133 0 rfl trivial ?_
                      refine R_s (P := inI (a + 5) ∧ (0 ≤ a + 5 ∧ a + 5 < ((wr (A 100) (a + 5) (-1)).length : Int)) ∧ inI (a + 6) ∧ (0 ≤ a + 6 ∧ a + 6 < ((wr (wr (A 100) (a + 5) (-1)) (a + 5) 0).length : Int)) ∧ inI (a + 7) ∧ (0 ≤ a + 7 ∧ a + 7 < ((wr (wr (wr (A 100) (a + 5) (-1)) (a + 5) 0) (a + 6) (nx (A 106) (F 24) (a26))).length : Int)) ∧ True) (f' := (143, [some (vR 88), some (vI a), some (vI 0), some (vI (nx (A 106) (F 24) (a26)))], [], LAY (u A 100 (wr (wr (wr (wr (A 100) (a + 5) (-1)) (a + 5) 0) (a + 6) (nx (A 106) (F 24) (a26))) (a + 7) v30)) (u (u (u F 26 f30) 25 a30) 27 v30), 0, 0)) hc133 22 rfl ⟨⟨by omega, by omega⟩, ⟨by omega, by simp only [wr_len]; omega⟩, ⟨by omega, by omega⟩, ⟨by omega, by simp only [wr_len]; omega⟩, ⟨by omega, by omega⟩, ⟨by omega, by simp only [wr_len]; omega⟩, trivial⟩ ?_
                      refine R_retv hc133 rfl rfl ⟨rfl, wr (wr (wr (wr (A 100) (a + 5) (-1)) (a + 5) 0) (a + 6) (nx (A 106) (F 24) (a26))) (a + 7) v30, f30, a30, v30, rfl, (by (try simp only [wr_len]); omega), (by omega), (by omega), (by omega), fun q hq hq9 => by rw [rd_wr_n (by omega) (by omega) (by omega), rd_wr_n (by omega) (by omega) (by omega), rd_wr_n (by omega) (by omega) (by omega), rd_wr_n (by omega) (by omega) (by omega)], ?_⟩
                      have c0 : F 26 = 0 := by omega
                      have c32 : nx (A 106) (F 24) (F 25) = 32 := by omega
                      have eI : wD (A 106) (F 24) IFF (F 26, F 25) = (f4, a4) := by simp only [IFF, wD, hw1, hw2, hw3, hw4]
                      have e2 : t2 (A 106) (F 24) (F 26, F 25) = ((f26, a26), 0) := by
                        unfold t2
                        rw [eI, if_pos (by (try dsimp only); omega)]
                        unfold fD
                        (try dsimp only)
                        rw [if_neg (by omega), hw5]
                        (try dsimp only)
                        rw [if_pos ⟨by omega, by omega⟩]
                        simp only [EAR, wD, hw24, hw25, hw26]
                      have e3 : t3 (A 106) (F 24) (F 26, F 25) = (1, a26) := by
                        unfold t3
                        rw [e2]
                        (try dsimp only)
                        rw [if_neg (fun z => by omega)]
                      have e4 : dG (A 106) (F 24) 4 (t3 (A 106) (F 24) (F 26, F 25)) = ((f30, a30), v30) := by
                        rw [e3]
                        exact hw30
                      have eS : tS (A 106) (F 24) (F 26, F 25) = (f30, a30) := by
                        unfold tS
                        rw [if_pos ⟨c0, c32⟩, e4]
                      have eF : tF (A 106) (F 24) (F 26, F 25) = 0 := by
                        unfold tF
                        rw [if_pos ⟨c0, c32⟩, e2]
                      have eG : tG (A 106) (F 24) (F 26, F 25) = nx (A 106) (F 24) (a26) := by
                        unfold tG
                        rw [e2]
                      have eH : tH (A 106) (F 24) (F 26, F 25) = v30 := by
                        unfold tH
                        rw [e4]
                      refine ⟨eS, fun z => ⟨?_, .inr ⟨?_, ?_⟩⟩⟩
                      · rw [eF, rd_wr_n (by omega) (by omega) (by omega), rd_wr_n (by omega) (by omega) (by omega), rd_wr_s (by omega) (by (try simp only [wr_len]); omega)]
                      · rw [eG, rd_wr_n (by omega) (by omega) (by omega), rd_wr_s (by omega) (by (try simp only [wr_len]); omega)]
                      · rw [eH, rd_wr_s (by omega) (by (try simp only [wr_len]); omega)]
                    · refine R_s (P := inI (a26 + 1) ∧ True) (f' := (108, [some (vR 88), some (vI a), some (vI 0), some (vI (nx (A 106) (F 24) (a26)))], [vI 4, vR 88], LAY (u A 100 (wr (A 100) (a + 5) (-1))) (u (u (u F 27 (F 27)) 26 f26) 25 (a26 + 1)), 0, 0)) hc133 9 rfl ⟨⟨by omega, by omega⟩, trivial⟩ ?_
                      refine R_cv hc133 rfl rfl (l_digs (A := (u A 100 (wr (A 100) (a + 5) (-1)))) (F := (u (u (u F 27 (F 27)) 26 f26) 25 (a26 + 1))) h24 ⟨by (show 0 ≤ a26 + 1); omega, by (have := nx_in (l := A 106) (n := F 24) (a := a26) (by omega)); (show a26 + 1 ≤ F 24); omega⟩ h106 (by show f26 = 0 ∨ f26 = 1; omega) (kk := 4) (by decide) rfl) (fun r G9 hp9 => ?_)
                      obtain ⟨rfl, f31, a31, v31, rfl, hf31, hw31, p31, q31, w31⟩ := hp9
                      have q31 : a31 ≤ F 24 := q31
                      have hw31 : dG (A 106) (F 24) 4 (f26, a26 + 1) = ((f31, a31), v31) := hw31
                      refine R_s (f' := (111, [some (vR 88), some (vI a), some (vI 0), some (vI (nx (A 106) (F 24) (a26)))], [], LAY (u A 100 (wr (A 100) (a + 5) (-1))) (u (u (u F 26 f31) 25 a31) 27 v31), 0, 0)) hc133 0 rfl trivial ?_
                      refine R_s (P := inI (a + 5) ∧ (0 ≤ a + 5 ∧ a + 5 < ((wr (A 100) (a + 5) (-1)).length : Int)) ∧ inI (a + 6) ∧ (0 ≤ a + 6 ∧ a + 6 < ((wr (wr (A 100) (a + 5) (-1)) (a + 5) 0).length : Int)) ∧ inI (a + 7) ∧ (0 ≤ a + 7 ∧ a + 7 < ((wr (wr (wr (A 100) (a + 5) (-1)) (a + 5) 0) (a + 6) (nx (A 106) (F 24) (a26))).length : Int)) ∧ True) (f' := (143, [some (vR 88), some (vI a), some (vI 0), some (vI (nx (A 106) (F 24) (a26)))], [], LAY (u A 100 (wr (wr (wr (wr (A 100) (a + 5) (-1)) (a + 5) 0) (a + 6) (nx (A 106) (F 24) (a26))) (a + 7) v31)) (u (u (u F 26 f31) 25 a31) 27 v31), 0, 0)) hc133 22 rfl ⟨⟨by omega, by omega⟩, ⟨by omega, by simp only [wr_len]; omega⟩, ⟨by omega, by omega⟩, ⟨by omega, by simp only [wr_len]; omega⟩, ⟨by omega, by omega⟩, ⟨by omega, by simp only [wr_len]; omega⟩, trivial⟩ ?_
                      refine R_retv hc133 rfl rfl ⟨rfl, wr (wr (wr (wr (A 100) (a + 5) (-1)) (a + 5) 0) (a + 6) (nx (A 106) (F 24) (a26))) (a + 7) v31, f31, a31, v31, rfl, (by (try simp only [wr_len]); omega), (by omega), (by omega), (by omega), fun q hq hq9 => by rw [rd_wr_n (by omega) (by omega) (by omega), rd_wr_n (by omega) (by omega) (by omega), rd_wr_n (by omega) (by omega) (by omega), rd_wr_n (by omega) (by omega) (by omega)], ?_⟩
                      have c0 : F 26 = 0 := by omega
                      have c32 : nx (A 106) (F 24) (F 25) = 32 := by omega
                      have eI : wD (A 106) (F 24) IFF (F 26, F 25) = (f4, a4) := by simp only [IFF, wD, hw1, hw2, hw3, hw4]
                      have e2 : t2 (A 106) (F 24) (F 26, F 25) = ((f26, a26), 0) := by
                        unfold t2
                        rw [eI, if_pos (by (try dsimp only); omega)]
                        unfold fD
                        (try dsimp only)
                        rw [if_neg (by omega), hw5]
                        (try dsimp only)
                        rw [if_pos ⟨by omega, by omega⟩]
                        simp only [EAR, wD, hw24, hw25, hw26]
                      have e3 : t3 (A 106) (F 24) (F 26, F 25) = (0, a26 + 1) := by
                        unfold t3
                        rw [e2]
                        (try dsimp only)
                        rw [if_pos ⟨by omega, by omega⟩]
                      have e4 : dG (A 106) (F 24) 4 (t3 (A 106) (F 24) (F 26, F 25)) = ((f31, a31), v31) := by
                        rw [e3]
                        rw [show (0 : Int) = f26 by omega]
                        exact hw31
                      have eS : tS (A 106) (F 24) (F 26, F 25) = (f31, a31) := by
                        unfold tS
                        rw [if_pos ⟨c0, c32⟩, e4]
                      have eF : tF (A 106) (F 24) (F 26, F 25) = 0 := by
                        unfold tF
                        rw [if_pos ⟨c0, c32⟩, e2]
                      have eG : tG (A 106) (F 24) (F 26, F 25) = nx (A 106) (F 24) (a26) := by
                        unfold tG
                        rw [e2]
                      have eH : tH (A 106) (F 24) (F 26, F 25) = v31 := by
                        unfold tH
                        rw [e4]
                      refine ⟨eS, fun z => ⟨?_, .inr ⟨?_, ?_⟩⟩⟩
                      · rw [eF, rd_wr_n (by omega) (by omega) (by omega), rd_wr_n (by omega) (by omega) (by omega), rd_wr_s (by omega) (by (try simp only [wr_len]); omega)]
                      · rw [eG, rd_wr_n (by omega) (by omega) (by omega), rd_wr_s (by omega) (by (try simp only [wr_len]); omega)]
                      · rw [eH, rd_wr_s (by omega) (by (try simp only [wr_len]); omega)]
        · refine R_s (P := True) (f' := (16, [some (vR 88)], [vI 105, vI 108, vI 97, vR 88], LAY (u A 100 (wr (A 100) (a + 5) (-1))) (u (u (u F 27 (F 27)) 26 f4) 25 a4), 0, 0)) hc132 4 rfl trivial ?_
          refine R_cv hc132 rfl rfl ?_ (fun r G h => h)
          refine R_s (P := True) (f' := (2, [some (vR 88), some (vI 97), some (vI 108), some (vI 105)], [vI 97, vR 88], LAY (u A 100 (wr (A 100) (a + 5) (-1))) (u (u (u F 27 (F 27)) 26 f4) 25 a4), 0, 0)) hc129 2 rfl trivial ?_
          refine R_cv hc129 rfl rfl (l_eats (A := (u A 100 (wr (A 100) (a + 5) (-1)))) (F := (u (u (u F 27 (F 27)) 26 f4) 25 a4)) h24 ⟨by (show 0 ≤ a4); omega, by (show a4 ≤ F 24); omega⟩ h106 (by show f4 = 0 ∨ f4 = 1; omega) (c := 97) (by decide)) (fun r G9 hp9 => ?_)
          obtain ⟨rfl, f32, a32, rfl, hf32, hw32, p32, q32⟩ := hp9
          have q32 : a32 ≤ F 24 := q32
          have hw32 : eE (A 106) (F 24) 97 (f4, a4) = (f32, a32) := hw32
          refine R_s (f' := (5, [some (vR 88), some (vI 97), some (vI 108), some (vI 105)], [], LAY (u A 100 (wr (A 100) (a + 5) (-1))) (u (u (u F 27 (F 27)) 26 f32) 25 a32), 0, 0)) hc129 0 rfl trivial ?_
          refine R_s (P := True) (f' := (7, [some (vR 88), some (vI 97), some (vI 108), some (vI 105)], [vI 108, vR 88], LAY (u A 100 (wr (A 100) (a + 5) (-1))) (u (u (u F 27 (F 27)) 26 f32) 25 a32), 0, 0)) hc129 2 rfl trivial ?_
          refine R_cv hc129 rfl rfl (l_eats (A := (u A 100 (wr (A 100) (a + 5) (-1)))) (F := (u (u (u F 27 (F 27)) 26 f32) 25 a32)) h24 ⟨by (show 0 ≤ a32); omega, by (show a32 ≤ F 24); omega⟩ h106 (by show f32 = 0 ∨ f32 = 1; omega) (c := 108) (by decide)) (fun r G9 hp9 => ?_)
          obtain ⟨rfl, f33, a33, rfl, hf33, hw33, p33, q33⟩ := hp9
          have q33 : a33 ≤ F 24 := q33
          have hw33 : eE (A 106) (F 24) 108 (f32, a32) = (f33, a33) := hw33
          refine R_s (f' := (10, [some (vR 88), some (vI 97), some (vI 108), some (vI 105)], [], LAY (u A 100 (wr (A 100) (a + 5) (-1))) (u (u (u F 27 (F 27)) 26 f33) 25 a33), 0, 0)) hc129 0 rfl trivial ?_
          refine R_s (P := True) (f' := (12, [some (vR 88), some (vI 97), some (vI 108), some (vI 105)], [vI 105, vR 88], LAY (u A 100 (wr (A 100) (a + 5) (-1))) (u (u (u F 27 (F 27)) 26 f33) 25 a33), 0, 0)) hc129 2 rfl trivial ?_
          refine R_cv hc129 rfl rfl (l_eats (A := (u A 100 (wr (A 100) (a + 5) (-1)))) (F := (u (u (u F 27 (F 27)) 26 f33) 25 a33)) h24 ⟨by (show 0 ≤ a33); omega, by (show a33 ≤ F 24); omega⟩ h106 (by show f33 = 0 ∨ f33 = 1; omega) (c := 105) (by decide)) (fun r G9 hp9 => ?_)
          obtain ⟨rfl, f34, a34, rfl, hf34, hw34, p34, q34⟩ := hp9
          have q34 : a34 ≤ F 24 := q34
          have hw34 : eE (A 106) (F 24) 105 (f33, a33) = (f34, a34) := hw34
          refine R_s (f' := (15, [some (vR 88), some (vI 97), some (vI 108), some (vI 105)], [], LAY (u A 100 (wr (A 100) (a + 5) (-1))) (u (u (u F 27 (F 27)) 26 f34) 25 a34), 0, 0)) hc129 0 rfl trivial ?_
          refine R_retv hc129 rfl rfl ?_
          refine R_s (f' := (19, [some (vR 88)], [], LAY (u A 100 (wr (A 100) (a + 5) (-1))) (u (u (u F 27 (F 27)) 26 f34) 25 a34), 0, 0)) hc132 0 rfl trivial ?_
          refine R_s (P := True) (f' := (22, [some (vR 88)], [vI 118, vR 88], LAY (u A 100 (wr (A 100) (a + 5) (-1))) (u (u (u F 27 (F 27)) 26 f34) 25 a34), 0, 0)) hc132 2 rfl trivial ?_
          refine R_cv hc132 rfl rfl (l_eats (A := (u A 100 (wr (A 100) (a + 5) (-1)))) (F := (u (u (u F 27 (F 27)) 26 f34) 25 a34)) h24 ⟨by (show 0 ≤ a34); omega, by (show a34 ≤ F 24); omega⟩ h106 (by show f34 = 0 ∨ f34 = 1; omega) (c := 118) (by decide)) (fun r G9 hp9 => ?_)
          obtain ⟨rfl, f35, a35, rfl, hf35, hw35, p35, q35⟩ := hp9
          have q35 : a35 ≤ F 24 := q35
          have hw35 : eE (A 106) (F 24) 118 (f34, a34) = (f35, a35) := hw35
          refine R_s (f' := (25, [some (vR 88)], [], LAY (u A 100 (wr (A 100) (a + 5) (-1))) (u (u (u F 27 (F 27)) 26 f35) 25 a35), 0, 0)) hc132 0 rfl trivial ?_
          refine R_s (P := True) (f' := (28, [some (vR 88)], [vI 101, vR 88], LAY (u A 100 (wr (A 100) (a + 5) (-1))) (u (u (u F 27 (F 27)) 26 f35) 25 a35), 0, 0)) hc132 2 rfl trivial ?_
          refine R_cv hc132 rfl rfl (l_eats (A := (u A 100 (wr (A 100) (a + 5) (-1)))) (F := (u (u (u F 27 (F 27)) 26 f35) 25 a35)) h24 ⟨by (show 0 ≤ a35); omega, by (show a35 ≤ F 24); omega⟩ h106 (by show f35 = 0 ∨ f35 = 1; omega) (c := 101) (by decide)) (fun r G9 hp9 => ?_)
          obtain ⟨rfl, f36, a36, rfl, hf36, hw36, p36, q36⟩ := hp9
          have q36 : a36 ≤ F 24 := q36
          have hw36 : eE (A 106) (F 24) 101 (f35, a35) = (f36, a36) := hw36
          refine R_s (f' := (31, [some (vR 88)], [], LAY (u A 100 (wr (A 100) (a + 5) (-1))) (u (u (u F 27 (F 27)) 26 f36) 25 a36), 0, 0)) hc132 0 rfl trivial ?_
          refine R_s (P := True) (f' := (32, [some (vR 88)], [vI 2], LAY (u A 100 (wr (A 100) (a + 5) (-1))) (u (u (u F 27 (F 27)) 26 f36) 25 a36), 0, 0)) hc132 1 rfl trivial ?_
          refine R_reti hc132 rfl rfl ?_
          refine R_s (f' := (57, [some (vR 88), some (vI a), none, none], [vI 2], LAY (u A 100 (wr (A 100) (a + 5) (-1))) (u (u (u F 27 (F 27)) 26 f36) 25 a36), 0, 0)) hc133 0 rfl trivial ?_
          refine R_s (P := True) (f' := (59, [some (vR 88), some (vI a), some (vI 2), none], [vR 88], LAY (u A 100 (wr (A 100) (a + 5) (-1))) (u (u (u F 27 (F 27)) 26 f36) 25 a36), 0, 0)) hc133 2 rfl trivial ?_
          refine R_cv hc133 rfl rfl (l_here (A := (u A 100 (wr (A 100) (a + 5) (-1)))) (F := (u (u (u F 27 (F 27)) 26 f36) 25 a36)) h24 ⟨by (show 0 ≤ a36); omega, by (show a36 ≤ F 24); omega⟩ h106) (fun r G9 hp9 => ?_)
          obtain ⟨e1, rfl⟩ := hp9
          have e2 : r = some (vI (nx (A 106) (F 24) (a36))) := e1
          clear e1
          subst e2
          refine R_s (f' := (62, [some (vR 88), some (vI a), some (vI 2), none], [vI (nx (A 106) (F 24) (a36))], LAY (u A 100 (wr (A 100) (a + 5) (-1))) (u (u (u F 27 (F 27)) 26 f36) 25 a36), 0, 0)) hc133 0 rfl trivial ?_
          refine R_s (P := True) (f' := (67, [some (vR 88), some (vI a), some (vI 2), some (vI (nx (A 106) (F 24) (a36)))], [vI f36], LAY (u A 100 (wr (A 100) (a + 5) (-1))) (u (u (u F 27 (F 27)) 26 f36) 25 a36), 0, 0)) hc133 3 rfl trivial ?_
          refine R_if (t := 101) hc133 rfl rfl (fun (c7 : ¬ f36 = 0) => ?_) (fun (c7 : ¬ (¬ f36 = 0)) => ?_)
          · refine R_s (P := (1 = 0 ∨ 1 = 1) ∧ True) (f' := (108, [some (vR 88), some (vI a), some (vI 2), some (vI (nx (A 106) (F 24) (a36)))], [vI 4, vR 88], LAY (u A 100 (wr (A 100) (a + 5) (-1))) (u (u (u F 27 (F 27)) 25 a36) 26 1), 0, 0)) hc133 5 rfl ⟨(by omega), trivial⟩ ?_
            refine R_cv hc133 rfl rfl (l_digs (A := (u A 100 (wr (A 100) (a + 5) (-1)))) (F := (u (u (u F 27 (F 27)) 25 a36) 26 1)) h24 ⟨by (show 0 ≤ a36); omega, by (show a36 ≤ F 24); omega⟩ h106 (by show 1 = 0 ∨ 1 = 1; omega) (kk := 4) (by decide) rfl) (fun r G9 hp9 => ?_)
            obtain ⟨rfl, f37, a37, v37, rfl, hf37, hw37, p37, q37, w37⟩ := hp9
            have q37 : a37 ≤ F 24 := q37
            have hw37 : dG (A 106) (F 24) 4 (1, a36) = ((f37, a37), v37) := hw37
            refine R_s (f' := (111, [some (vR 88), some (vI a), some (vI 2), some (vI (nx (A 106) (F 24) (a36)))], [], LAY (u A 100 (wr (A 100) (a + 5) (-1))) (u (u (u F 26 f37) 25 a37) 27 v37), 0, 0)) hc133 0 rfl trivial ?_
            refine R_s (P := inI (a + 5) ∧ (0 ≤ a + 5 ∧ a + 5 < ((wr (A 100) (a + 5) (-1)).length : Int)) ∧ inI (a + 6) ∧ (0 ≤ a + 6 ∧ a + 6 < ((wr (wr (A 100) (a + 5) (-1)) (a + 5) 2).length : Int)) ∧ inI (a + 7) ∧ (0 ≤ a + 7 ∧ a + 7 < ((wr (wr (wr (A 100) (a + 5) (-1)) (a + 5) 2) (a + 6) (nx (A 106) (F 24) (a36))).length : Int)) ∧ True) (f' := (143, [some (vR 88), some (vI a), some (vI 2), some (vI (nx (A 106) (F 24) (a36)))], [], LAY (u A 100 (wr (wr (wr (wr (A 100) (a + 5) (-1)) (a + 5) 2) (a + 6) (nx (A 106) (F 24) (a36))) (a + 7) v37)) (u (u (u F 26 f37) 25 a37) 27 v37), 0, 0)) hc133 22 rfl ⟨⟨by omega, by omega⟩, ⟨by omega, by simp only [wr_len]; omega⟩, ⟨by omega, by omega⟩, ⟨by omega, by simp only [wr_len]; omega⟩, ⟨by omega, by omega⟩, ⟨by omega, by simp only [wr_len]; omega⟩, trivial⟩ ?_
            refine R_retv hc133 rfl rfl ⟨rfl, wr (wr (wr (wr (A 100) (a + 5) (-1)) (a + 5) 2) (a + 6) (nx (A 106) (F 24) (a36))) (a + 7) v37, f37, a37, v37, rfl, (by (try simp only [wr_len]); omega), (by omega), (by omega), (by omega), fun q hq hq9 => by rw [rd_wr_n (by omega) (by omega) (by omega), rd_wr_n (by omega) (by omega) (by omega), rd_wr_n (by omega) (by omega) (by omega), rd_wr_n (by omega) (by omega) (by omega)], ?_⟩
            have c0 : F 26 = 0 := by omega
            have c32 : nx (A 106) (F 24) (F 25) = 32 := by omega
            have eI : wD (A 106) (F 24) IFF (F 26, F 25) = (f4, a4) := by simp only [IFF, wD, hw1, hw2, hw3, hw4]
            have e2 : t2 (A 106) (F 24) (F 26, F 25) = ((f36, a36), 2) := by
              unfold t2
              rw [eI, if_pos (by (try dsimp only); omega)]
              unfold fD
              (try dsimp only)
              rw [if_pos (by omega)]
              simp only [ALIVE, wD, hw32, hw33, hw34, hw35, hw36]
            have e3 : t3 (A 106) (F 24) (F 26, F 25) = (1, a36) := by
              unfold t3
              rw [e2]
              (try dsimp only)
              rw [if_neg (fun z => by omega)]
            have e4 : dG (A 106) (F 24) 4 (t3 (A 106) (F 24) (F 26, F 25)) = ((f37, a37), v37) := by
              rw [e3]
              exact hw37
            have eS : tS (A 106) (F 24) (F 26, F 25) = (f37, a37) := by
              unfold tS
              rw [if_pos ⟨c0, c32⟩, e4]
            have eF : tF (A 106) (F 24) (F 26, F 25) = 2 := by
              unfold tF
              rw [if_pos ⟨c0, c32⟩, e2]
            have eG : tG (A 106) (F 24) (F 26, F 25) = nx (A 106) (F 24) (a36) := by
              unfold tG
              rw [e2]
            have eH : tH (A 106) (F 24) (F 26, F 25) = v37 := by
              unfold tH
              rw [e4]
            refine ⟨eS, fun z => ⟨?_, .inr ⟨?_, ?_⟩⟩⟩
            · rw [eF, rd_wr_n (by omega) (by omega) (by omega), rd_wr_n (by omega) (by omega) (by omega), rd_wr_s (by omega) (by (try simp only [wr_len]); omega)]
            · rw [eG, rd_wr_n (by omega) (by omega) (by omega), rd_wr_s (by omega) (by (try simp only [wr_len]); omega)]
            · rw [eH, rd_wr_s (by omega) (by (try simp only [wr_len]); omega)]
          · refine R_s (P := True) (f' := (73, [some (vR 88), some (vI a), some (vI 2), some (vI (nx (A 106) (F 24) (a36)))], [vI 61, vI (nx (A 106) (F 24) (a36))], LAY (u A 100 (wr (A 100) (a + 5) (-1))) (u (u (u F 27 (F 27)) 26 f36) 25 a36), 0, 0)) hc133 2 rfl trivial ?_
            refine R_ic (t := 88) hc133 rfl rfl (fun (c8 : nx (A 106) (F 24) (a36) = 61) => ?_) (fun (c8 : ¬ (nx (A 106) (F 24) (a36) = 61)) => ?_)
            · refine R_s (P := inI (a36 + 1) ∧ True) (f' := (108, [some (vR 88), some (vI a), some (vI 2), some (vI (nx (A 106) (F 24) (a36)))], [vI 4, vR 88], LAY (u A 100 (wr (A 100) (a + 5) (-1))) (u (u (u F 27 (F 27)) 26 f36) 25 (a36 + 1)), 0, 0)) hc133 9 rfl ⟨⟨by omega, by omega⟩, trivial⟩ ?_
              refine R_cv hc133 rfl rfl (l_digs (A := (u A 100 (wr (A 100) (a + 5) (-1)))) (F := (u (u (u F 27 (F 27)) 26 f36) 25 (a36 + 1))) h24 ⟨by (show 0 ≤ a36 + 1); omega, by (have := nx_in (l := A 106) (n := F 24) (a := a36) (by omega)); (show a36 + 1 ≤ F 24); omega⟩ h106 (by show f36 = 0 ∨ f36 = 1; omega) (kk := 4) (by decide) rfl) (fun r G9 hp9 => ?_)
              obtain ⟨rfl, f38, a38, v38, rfl, hf38, hw38, p38, q38, w38⟩ := hp9
              have q38 : a38 ≤ F 24 := q38
              have hw38 : dG (A 106) (F 24) 4 (f36, a36 + 1) = ((f38, a38), v38) := hw38
              refine R_s (f' := (111, [some (vR 88), some (vI a), some (vI 2), some (vI (nx (A 106) (F 24) (a36)))], [], LAY (u A 100 (wr (A 100) (a + 5) (-1))) (u (u (u F 26 f38) 25 a38) 27 v38), 0, 0)) hc133 0 rfl trivial ?_
              refine R_s (P := inI (a + 5) ∧ (0 ≤ a + 5 ∧ a + 5 < ((wr (A 100) (a + 5) (-1)).length : Int)) ∧ inI (a + 6) ∧ (0 ≤ a + 6 ∧ a + 6 < ((wr (wr (A 100) (a + 5) (-1)) (a + 5) 2).length : Int)) ∧ inI (a + 7) ∧ (0 ≤ a + 7 ∧ a + 7 < ((wr (wr (wr (A 100) (a + 5) (-1)) (a + 5) 2) (a + 6) (nx (A 106) (F 24) (a36))).length : Int)) ∧ True) (f' := (143, [some (vR 88), some (vI a), some (vI 2), some (vI (nx (A 106) (F 24) (a36)))], [], LAY (u A 100 (wr (wr (wr (wr (A 100) (a + 5) (-1)) (a + 5) 2) (a + 6) (nx (A 106) (F 24) (a36))) (a + 7) v38)) (u (u (u F 26 f38) 25 a38) 27 v38), 0, 0)) hc133 22 rfl ⟨⟨by omega, by omega⟩, ⟨by omega, by simp only [wr_len]; omega⟩, ⟨by omega, by omega⟩, ⟨by omega, by simp only [wr_len]; omega⟩, ⟨by omega, by omega⟩, ⟨by omega, by simp only [wr_len]; omega⟩, trivial⟩ ?_
              refine R_retv hc133 rfl rfl ⟨rfl, wr (wr (wr (wr (A 100) (a + 5) (-1)) (a + 5) 2) (a + 6) (nx (A 106) (F 24) (a36))) (a + 7) v38, f38, a38, v38, rfl, (by (try simp only [wr_len]); omega), (by omega), (by omega), (by omega), fun q hq hq9 => by rw [rd_wr_n (by omega) (by omega) (by omega), rd_wr_n (by omega) (by omega) (by omega), rd_wr_n (by omega) (by omega) (by omega), rd_wr_n (by omega) (by omega) (by omega)], ?_⟩
              have c0 : F 26 = 0 := by omega
              have c32 : nx (A 106) (F 24) (F 25) = 32 := by omega
              have eI : wD (A 106) (F 24) IFF (F 26, F 25) = (f4, a4) := by simp only [IFF, wD, hw1, hw2, hw3, hw4]
              have e2 : t2 (A 106) (F 24) (F 26, F 25) = ((f36, a36), 2) := by
                unfold t2
                rw [eI, if_pos (by (try dsimp only); omega)]
                unfold fD
                (try dsimp only)
                rw [if_pos (by omega)]
                simp only [ALIVE, wD, hw32, hw33, hw34, hw35, hw36]
              have e3 : t3 (A 106) (F 24) (F 26, F 25) = (0, a36 + 1) := by
                unfold t3
                rw [e2]
                (try dsimp only)
                rw [if_pos ⟨by omega, by omega⟩]
              have e4 : dG (A 106) (F 24) 4 (t3 (A 106) (F 24) (F 26, F 25)) = ((f38, a38), v38) := by
                rw [e3]
                rw [show (0 : Int) = f36 by omega]
                exact hw38
              have eS : tS (A 106) (F 24) (F 26, F 25) = (f38, a38) := by
                unfold tS
                rw [if_pos ⟨c0, c32⟩, e4]
              have eF : tF (A 106) (F 24) (F 26, F 25) = 2 := by
                unfold tF
                rw [if_pos ⟨c0, c32⟩, e2]
              have eG : tG (A 106) (F 24) (F 26, F 25) = nx (A 106) (F 24) (a36) := by
                unfold tG
                rw [e2]
              have eH : tH (A 106) (F 24) (F 26, F 25) = v38 := by
                unfold tH
                rw [e4]
              refine ⟨eS, fun z => ⟨?_, .inr ⟨?_, ?_⟩⟩⟩
              · rw [eF, rd_wr_n (by omega) (by omega) (by omega), rd_wr_n (by omega) (by omega) (by omega), rd_wr_s (by omega) (by (try simp only [wr_len]); omega)]
              · rw [eG, rd_wr_n (by omega) (by omega) (by omega), rd_wr_s (by omega) (by (try simp only [wr_len]); omega)]
              · rw [eH, rd_wr_s (by omega) (by (try simp only [wr_len]); omega)]
            · refine R_s (P := True) (f' := (79, [some (vR 88), some (vI a), some (vI 2), some (vI (nx (A 106) (F 24) (a36)))], [vI 60, vI (nx (A 106) (F 24) (a36))], LAY (u A 100 (wr (A 100) (a + 5) (-1))) (u (u (u F 27 (F 27)) 26 f36) 25 a36), 0, 0)) hc133 2 rfl trivial ?_
              refine R_ic (t := 88) hc133 rfl rfl (fun (c9 : nx (A 106) (F 24) (a36) = 60) => ?_) (fun (c9 : ¬ (nx (A 106) (F 24) (a36) = 60)) => ?_)
              · refine R_s (P := inI (a36 + 1) ∧ True) (f' := (108, [some (vR 88), some (vI a), some (vI 2), some (vI (nx (A 106) (F 24) (a36)))], [vI 4, vR 88], LAY (u A 100 (wr (A 100) (a + 5) (-1))) (u (u (u F 27 (F 27)) 26 f36) 25 (a36 + 1)), 0, 0)) hc133 9 rfl ⟨⟨by omega, by omega⟩, trivial⟩ ?_
                refine R_cv hc133 rfl rfl (l_digs (A := (u A 100 (wr (A 100) (a + 5) (-1)))) (F := (u (u (u F 27 (F 27)) 26 f36) 25 (a36 + 1))) h24 ⟨by (show 0 ≤ a36 + 1); omega, by (have := nx_in (l := A 106) (n := F 24) (a := a36) (by omega)); (show a36 + 1 ≤ F 24); omega⟩ h106 (by show f36 = 0 ∨ f36 = 1; omega) (kk := 4) (by decide) rfl) (fun r G9 hp9 => ?_)
                obtain ⟨rfl, f39, a39, v39, rfl, hf39, hw39, p39, q39, w39⟩ := hp9
                have q39 : a39 ≤ F 24 := q39
                have hw39 : dG (A 106) (F 24) 4 (f36, a36 + 1) = ((f39, a39), v39) := hw39
                refine R_s (f' := (111, [some (vR 88), some (vI a), some (vI 2), some (vI (nx (A 106) (F 24) (a36)))], [], LAY (u A 100 (wr (A 100) (a + 5) (-1))) (u (u (u F 26 f39) 25 a39) 27 v39), 0, 0)) hc133 0 rfl trivial ?_
                refine R_s (P := inI (a + 5) ∧ (0 ≤ a + 5 ∧ a + 5 < ((wr (A 100) (a + 5) (-1)).length : Int)) ∧ inI (a + 6) ∧ (0 ≤ a + 6 ∧ a + 6 < ((wr (wr (A 100) (a + 5) (-1)) (a + 5) 2).length : Int)) ∧ inI (a + 7) ∧ (0 ≤ a + 7 ∧ a + 7 < ((wr (wr (wr (A 100) (a + 5) (-1)) (a + 5) 2) (a + 6) (nx (A 106) (F 24) (a36))).length : Int)) ∧ True) (f' := (143, [some (vR 88), some (vI a), some (vI 2), some (vI (nx (A 106) (F 24) (a36)))], [], LAY (u A 100 (wr (wr (wr (wr (A 100) (a + 5) (-1)) (a + 5) 2) (a + 6) (nx (A 106) (F 24) (a36))) (a + 7) v39)) (u (u (u F 26 f39) 25 a39) 27 v39), 0, 0)) hc133 22 rfl ⟨⟨by omega, by omega⟩, ⟨by omega, by simp only [wr_len]; omega⟩, ⟨by omega, by omega⟩, ⟨by omega, by simp only [wr_len]; omega⟩, ⟨by omega, by omega⟩, ⟨by omega, by simp only [wr_len]; omega⟩, trivial⟩ ?_
                refine R_retv hc133 rfl rfl ⟨rfl, wr (wr (wr (wr (A 100) (a + 5) (-1)) (a + 5) 2) (a + 6) (nx (A 106) (F 24) (a36))) (a + 7) v39, f39, a39, v39, rfl, (by (try simp only [wr_len]); omega), (by omega), (by omega), (by omega), fun q hq hq9 => by rw [rd_wr_n (by omega) (by omega) (by omega), rd_wr_n (by omega) (by omega) (by omega), rd_wr_n (by omega) (by omega) (by omega), rd_wr_n (by omega) (by omega) (by omega)], ?_⟩
                have c0 : F 26 = 0 := by omega
                have c32 : nx (A 106) (F 24) (F 25) = 32 := by omega
                have eI : wD (A 106) (F 24) IFF (F 26, F 25) = (f4, a4) := by simp only [IFF, wD, hw1, hw2, hw3, hw4]
                have e2 : t2 (A 106) (F 24) (F 26, F 25) = ((f36, a36), 2) := by
                  unfold t2
                  rw [eI, if_pos (by (try dsimp only); omega)]
                  unfold fD
                  (try dsimp only)
                  rw [if_pos (by omega)]
                  simp only [ALIVE, wD, hw32, hw33, hw34, hw35, hw36]
                have e3 : t3 (A 106) (F 24) (F 26, F 25) = (0, a36 + 1) := by
                  unfold t3
                  rw [e2]
                  (try dsimp only)
                  rw [if_pos ⟨by omega, by omega⟩]
                have e4 : dG (A 106) (F 24) 4 (t3 (A 106) (F 24) (F 26, F 25)) = ((f39, a39), v39) := by
                  rw [e3]
                  rw [show (0 : Int) = f36 by omega]
                  exact hw39
                have eS : tS (A 106) (F 24) (F 26, F 25) = (f39, a39) := by
                  unfold tS
                  rw [if_pos ⟨c0, c32⟩, e4]
                have eF : tF (A 106) (F 24) (F 26, F 25) = 2 := by
                  unfold tF
                  rw [if_pos ⟨c0, c32⟩, e2]
                have eG : tG (A 106) (F 24) (F 26, F 25) = nx (A 106) (F 24) (a36) := by
                  unfold tG
                  rw [e2]
                have eH : tH (A 106) (F 24) (F 26, F 25) = v39 := by
                  unfold tH
                  rw [e4]
                refine ⟨eS, fun z => ⟨?_, .inr ⟨?_, ?_⟩⟩⟩
                · rw [eF, rd_wr_n (by omega) (by omega) (by omega), rd_wr_n (by omega) (by omega) (by omega), rd_wr_s (by omega) (by (try simp only [wr_len]); omega)]
                · rw [eG, rd_wr_n (by omega) (by omega) (by omega), rd_wr_s (by omega) (by (try simp only [wr_len]); omega)]
                · rw [eH, rd_wr_s (by omega) (by (try simp only [wr_len]); omega)]
              · refine R_s (P := True) (f' := (85, [some (vR 88), some (vI a), some (vI 2), some (vI (nx (A 106) (F 24) (a36)))], [vI 62, vI (nx (A 106) (F 24) (a36))], LAY (u A 100 (wr (A 100) (a + 5) (-1))) (u (u (u F 27 (F 27)) 26 f36) 25 a36), 0, 0)) hc133 2 rfl trivial ?_
                refine R_ic (t := 101) hc133 rfl rfl (fun (c10 : ¬ nx (A 106) (F 24) (a36) = 62) => ?_) (fun (c10 : ¬ (¬ nx (A 106) (F 24) (a36) = 62)) => ?_)
                · refine R_s (P := (1 = 0 ∨ 1 = 1) ∧ True) (f' := (108, [some (vR 88), some (vI a), some (vI 2), some (vI (nx (A 106) (F 24) (a36)))], [vI 4, vR 88], LAY (u A 100 (wr (A 100) (a + 5) (-1))) (u (u (u F 27 (F 27)) 25 a36) 26 1), 0, 0)) hc133 5 rfl ⟨(by omega), trivial⟩ ?_
                  refine R_cv hc133 rfl rfl (l_digs (A := (u A 100 (wr (A 100) (a + 5) (-1)))) (F := (u (u (u F 27 (F 27)) 25 a36) 26 1)) h24 ⟨by (show 0 ≤ a36); omega, by (show a36 ≤ F 24); omega⟩ h106 (by show 1 = 0 ∨ 1 = 1; omega) (kk := 4) (by decide) rfl) (fun r G9 hp9 => ?_)
                  obtain ⟨rfl, f40, a40, v40, rfl, hf40, hw40, p40, q40, w40⟩ := hp9
                  have q40 : a40 ≤ F 24 := q40
                  have hw40 : dG (A 106) (F 24) 4 (1, a36) = ((f40, a40), v40) := hw40
                  refine R_s (f' := (111, [some (vR 88), some (vI a), some (vI 2), some (vI (nx (A 106) (F 24) (a36)))], [], LAY (u A 100 (wr (A 100) (a + 5) (-1))) (u (u (u F 26 f40) 25 a40) 27 v40), 0, 0)) hc133 0 rfl trivial ?_
                  refine R_s (P := inI (a + 5) ∧ (0 ≤ a + 5 ∧ a + 5 < ((wr (A 100) (a + 5) (-1)).length : Int)) ∧ inI (a + 6) ∧ (0 ≤ a + 6 ∧ a + 6 < ((wr (wr (A 100) (a + 5) (-1)) (a + 5) 2).length : Int)) ∧ inI (a + 7) ∧ (0 ≤ a + 7 ∧ a + 7 < ((wr (wr (wr (A 100) (a + 5) (-1)) (a + 5) 2) (a + 6) (nx (A 106) (F 24) (a36))).length : Int)) ∧ True) (f' := (143, [some (vR 88), some (vI a), some (vI 2), some (vI (nx (A 106) (F 24) (a36)))], [], LAY (u A 100 (wr (wr (wr (wr (A 100) (a + 5) (-1)) (a + 5) 2) (a + 6) (nx (A 106) (F 24) (a36))) (a + 7) v40)) (u (u (u F 26 f40) 25 a40) 27 v40), 0, 0)) hc133 22 rfl ⟨⟨by omega, by omega⟩, ⟨by omega, by simp only [wr_len]; omega⟩, ⟨by omega, by omega⟩, ⟨by omega, by simp only [wr_len]; omega⟩, ⟨by omega, by omega⟩, ⟨by omega, by simp only [wr_len]; omega⟩, trivial⟩ ?_
                  refine R_retv hc133 rfl rfl ⟨rfl, wr (wr (wr (wr (A 100) (a + 5) (-1)) (a + 5) 2) (a + 6) (nx (A 106) (F 24) (a36))) (a + 7) v40, f40, a40, v40, rfl, (by (try simp only [wr_len]); omega), (by omega), (by omega), (by omega), fun q hq hq9 => by rw [rd_wr_n (by omega) (by omega) (by omega), rd_wr_n (by omega) (by omega) (by omega), rd_wr_n (by omega) (by omega) (by omega), rd_wr_n (by omega) (by omega) (by omega)], ?_⟩
                  have c0 : F 26 = 0 := by omega
                  have c32 : nx (A 106) (F 24) (F 25) = 32 := by omega
                  have eI : wD (A 106) (F 24) IFF (F 26, F 25) = (f4, a4) := by simp only [IFF, wD, hw1, hw2, hw3, hw4]
                  have e2 : t2 (A 106) (F 24) (F 26, F 25) = ((f36, a36), 2) := by
                    unfold t2
                    rw [eI, if_pos (by (try dsimp only); omega)]
                    unfold fD
                    (try dsimp only)
                    rw [if_pos (by omega)]
                    simp only [ALIVE, wD, hw32, hw33, hw34, hw35, hw36]
                  have e3 : t3 (A 106) (F 24) (F 26, F 25) = (1, a36) := by
                    unfold t3
                    rw [e2]
                    (try dsimp only)
                    rw [if_neg (fun z => by omega)]
                  have e4 : dG (A 106) (F 24) 4 (t3 (A 106) (F 24) (F 26, F 25)) = ((f40, a40), v40) := by
                    rw [e3]
                    exact hw40
                  have eS : tS (A 106) (F 24) (F 26, F 25) = (f40, a40) := by
                    unfold tS
                    rw [if_pos ⟨c0, c32⟩, e4]
                  have eF : tF (A 106) (F 24) (F 26, F 25) = 2 := by
                    unfold tF
                    rw [if_pos ⟨c0, c32⟩, e2]
                  have eG : tG (A 106) (F 24) (F 26, F 25) = nx (A 106) (F 24) (a36) := by
                    unfold tG
                    rw [e2]
                  have eH : tH (A 106) (F 24) (F 26, F 25) = v40 := by
                    unfold tH
                    rw [e4]
                  refine ⟨eS, fun z => ⟨?_, .inr ⟨?_, ?_⟩⟩⟩
                  · rw [eF, rd_wr_n (by omega) (by omega) (by omega), rd_wr_n (by omega) (by omega) (by omega), rd_wr_s (by omega) (by (try simp only [wr_len]); omega)]
                  · rw [eG, rd_wr_n (by omega) (by omega) (by omega), rd_wr_s (by omega) (by (try simp only [wr_len]); omega)]
                  · rw [eH, rd_wr_s (by omega) (by (try simp only [wr_len]); omega)]
                · refine R_s (P := inI (a36 + 1) ∧ True) (f' := (108, [some (vR 88), some (vI a), some (vI 2), some (vI (nx (A 106) (F 24) (a36)))], [vI 4, vR 88], LAY (u A 100 (wr (A 100) (a + 5) (-1))) (u (u (u F 27 (F 27)) 26 f36) 25 (a36 + 1)), 0, 0)) hc133 9 rfl ⟨⟨by omega, by omega⟩, trivial⟩ ?_
                  refine R_cv hc133 rfl rfl (l_digs (A := (u A 100 (wr (A 100) (a + 5) (-1)))) (F := (u (u (u F 27 (F 27)) 26 f36) 25 (a36 + 1))) h24 ⟨by (show 0 ≤ a36 + 1); omega, by (have := nx_in (l := A 106) (n := F 24) (a := a36) (by omega)); (show a36 + 1 ≤ F 24); omega⟩ h106 (by show f36 = 0 ∨ f36 = 1; omega) (kk := 4) (by decide) rfl) (fun r G9 hp9 => ?_)
                  obtain ⟨rfl, f41, a41, v41, rfl, hf41, hw41, p41, q41, w41⟩ := hp9
                  have q41 : a41 ≤ F 24 := q41
                  have hw41 : dG (A 106) (F 24) 4 (f36, a36 + 1) = ((f41, a41), v41) := hw41
                  refine R_s (f' := (111, [some (vR 88), some (vI a), some (vI 2), some (vI (nx (A 106) (F 24) (a36)))], [], LAY (u A 100 (wr (A 100) (a + 5) (-1))) (u (u (u F 26 f41) 25 a41) 27 v41), 0, 0)) hc133 0 rfl trivial ?_
                  refine R_s (P := inI (a + 5) ∧ (0 ≤ a + 5 ∧ a + 5 < ((wr (A 100) (a + 5) (-1)).length : Int)) ∧ inI (a + 6) ∧ (0 ≤ a + 6 ∧ a + 6 < ((wr (wr (A 100) (a + 5) (-1)) (a + 5) 2).length : Int)) ∧ inI (a + 7) ∧ (0 ≤ a + 7 ∧ a + 7 < ((wr (wr (wr (A 100) (a + 5) (-1)) (a + 5) 2) (a + 6) (nx (A 106) (F 24) (a36))).length : Int)) ∧ True) (f' := (143, [some (vR 88), some (vI a), some (vI 2), some (vI (nx (A 106) (F 24) (a36)))], [], LAY (u A 100 (wr (wr (wr (wr (A 100) (a + 5) (-1)) (a + 5) 2) (a + 6) (nx (A 106) (F 24) (a36))) (a + 7) v41)) (u (u (u F 26 f41) 25 a41) 27 v41), 0, 0)) hc133 22 rfl ⟨⟨by omega, by omega⟩, ⟨by omega, by simp only [wr_len]; omega⟩, ⟨by omega, by omega⟩, ⟨by omega, by simp only [wr_len]; omega⟩, ⟨by omega, by omega⟩, ⟨by omega, by simp only [wr_len]; omega⟩, trivial⟩ ?_
                  refine R_retv hc133 rfl rfl ⟨rfl, wr (wr (wr (wr (A 100) (a + 5) (-1)) (a + 5) 2) (a + 6) (nx (A 106) (F 24) (a36))) (a + 7) v41, f41, a41, v41, rfl, (by (try simp only [wr_len]); omega), (by omega), (by omega), (by omega), fun q hq hq9 => by rw [rd_wr_n (by omega) (by omega) (by omega), rd_wr_n (by omega) (by omega) (by omega), rd_wr_n (by omega) (by omega) (by omega), rd_wr_n (by omega) (by omega) (by omega)], ?_⟩
                  have c0 : F 26 = 0 := by omega
                  have c32 : nx (A 106) (F 24) (F 25) = 32 := by omega
                  have eI : wD (A 106) (F 24) IFF (F 26, F 25) = (f4, a4) := by simp only [IFF, wD, hw1, hw2, hw3, hw4]
                  have e2 : t2 (A 106) (F 24) (F 26, F 25) = ((f36, a36), 2) := by
                    unfold t2
                    rw [eI, if_pos (by (try dsimp only); omega)]
                    unfold fD
                    (try dsimp only)
                    rw [if_pos (by omega)]
                    simp only [ALIVE, wD, hw32, hw33, hw34, hw35, hw36]
                  have e3 : t3 (A 106) (F 24) (F 26, F 25) = (0, a36 + 1) := by
                    unfold t3
                    rw [e2]
                    (try dsimp only)
                    rw [if_pos ⟨by omega, by omega⟩]
                  have e4 : dG (A 106) (F 24) 4 (t3 (A 106) (F 24) (F 26, F 25)) = ((f41, a41), v41) := by
                    rw [e3]
                    rw [show (0 : Int) = f36 by omega]
                    exact hw41
                  have eS : tS (A 106) (F 24) (F 26, F 25) = (f41, a41) := by
                    unfold tS
                    rw [if_pos ⟨c0, c32⟩, e4]
                  have eF : tF (A 106) (F 24) (F 26, F 25) = 2 := by
                    unfold tF
                    rw [if_pos ⟨c0, c32⟩, e2]
                  have eG : tG (A 106) (F 24) (F 26, F 25) = nx (A 106) (F 24) (a36) := by
                    unfold tG
                    rw [e2]
                  have eH : tH (A 106) (F 24) (F 26, F 25) = v41 := by
                    unfold tH
                    rw [e4]
                  refine ⟨eS, fun z => ⟨?_, .inr ⟨?_, ?_⟩⟩⟩
                  · rw [eF, rd_wr_n (by omega) (by omega) (by omega), rd_wr_n (by omega) (by omega) (by omega), rd_wr_s (by omega) (by (try simp only [wr_len]); omega)]
                  · rw [eG, rd_wr_n (by omega) (by omega) (by omega), rd_wr_s (by omega) (by (try simp only [wr_len]); omega)]
                  · rw [eH, rd_wr_s (by omega) (by (try simp only [wr_len]); omega)]
      · refine R_s (P := True) (f' := (59, [some (vR 88), some (vI a), some (vI 0), none], [vR 88], LAY (u A 100 (wr (A 100) (a + 5) (-1))) (u (u (u F 27 (F 27)) 26 f4) 25 a4), 0, 0)) hc133 4 rfl trivial ?_
        refine R_cv hc133 rfl rfl (l_here (A := (u A 100 (wr (A 100) (a + 5) (-1)))) (F := (u (u (u F 27 (F 27)) 26 f4) 25 a4)) h24 ⟨by (show 0 ≤ a4); omega, by (show a4 ≤ F 24); omega⟩ h106) (fun r G9 hp9 => ?_)
        obtain ⟨e1, rfl⟩ := hp9
        have e2 : r = some (vI (nx (A 106) (F 24) (a4))) := e1
        clear e1
        subst e2
        refine R_s (f' := (62, [some (vR 88), some (vI a), some (vI 0), none], [vI (nx (A 106) (F 24) (a4))], LAY (u A 100 (wr (A 100) (a + 5) (-1))) (u (u (u F 27 (F 27)) 26 f4) 25 a4), 0, 0)) hc133 0 rfl trivial ?_
        refine R_s (P := True) (f' := (67, [some (vR 88), some (vI a), some (vI 0), some (vI (nx (A 106) (F 24) (a4)))], [vI f4], LAY (u A 100 (wr (A 100) (a + 5) (-1))) (u (u (u F 27 (F 27)) 26 f4) 25 a4), 0, 0)) hc133 3 rfl trivial ?_
        refine R_if (t := 101) hc133 rfl rfl (fun (_ : ¬ f4 = 0) => ?_) (fun (z : ¬ (¬ f4 = 0)) => absurd (show ¬ f4 = 0 by omega) z)
        refine R_s (P := (1 = 0 ∨ 1 = 1) ∧ True) (f' := (108, [some (vR 88), some (vI a), some (vI 0), some (vI (nx (A 106) (F 24) (a4)))], [vI 4, vR 88], LAY (u A 100 (wr (A 100) (a + 5) (-1))) (u (u (u F 27 (F 27)) 25 a4) 26 1), 0, 0)) hc133 5 rfl ⟨(by omega), trivial⟩ ?_
        refine R_cv hc133 rfl rfl (l_digs (A := (u A 100 (wr (A 100) (a + 5) (-1)))) (F := (u (u (u F 27 (F 27)) 25 a4) 26 1)) h24 ⟨by (show 0 ≤ a4); omega, by (show a4 ≤ F 24); omega⟩ h106 (by show 1 = 0 ∨ 1 = 1; omega) (kk := 4) (by decide) rfl) (fun r G9 hp9 => ?_)
        obtain ⟨rfl, f42, a42, v42, rfl, hf42, hw42, p42, q42, w42⟩ := hp9
        have q42 : a42 ≤ F 24 := q42
        have hw42 : dG (A 106) (F 24) 4 (1, a4) = ((f42, a42), v42) := hw42
        refine R_s (f' := (111, [some (vR 88), some (vI a), some (vI 0), some (vI (nx (A 106) (F 24) (a4)))], [], LAY (u A 100 (wr (A 100) (a + 5) (-1))) (u (u (u F 26 f42) 25 a42) 27 v42), 0, 0)) hc133 0 rfl trivial ?_
        refine R_s (P := inI (a + 5) ∧ (0 ≤ a + 5 ∧ a + 5 < ((wr (A 100) (a + 5) (-1)).length : Int)) ∧ inI (a + 6) ∧ (0 ≤ a + 6 ∧ a + 6 < ((wr (wr (A 100) (a + 5) (-1)) (a + 5) 0).length : Int)) ∧ inI (a + 7) ∧ (0 ≤ a + 7 ∧ a + 7 < ((wr (wr (wr (A 100) (a + 5) (-1)) (a + 5) 0) (a + 6) (nx (A 106) (F 24) (a4))).length : Int)) ∧ True) (f' := (143, [some (vR 88), some (vI a), some (vI 0), some (vI (nx (A 106) (F 24) (a4)))], [], LAY (u A 100 (wr (wr (wr (wr (A 100) (a + 5) (-1)) (a + 5) 0) (a + 6) (nx (A 106) (F 24) (a4))) (a + 7) v42)) (u (u (u F 26 f42) 25 a42) 27 v42), 0, 0)) hc133 22 rfl ⟨⟨by omega, by omega⟩, ⟨by omega, by simp only [wr_len]; omega⟩, ⟨by omega, by omega⟩, ⟨by omega, by simp only [wr_len]; omega⟩, ⟨by omega, by omega⟩, ⟨by omega, by simp only [wr_len]; omega⟩, trivial⟩ ?_
        refine R_retv hc133 rfl rfl ⟨rfl, wr (wr (wr (wr (A 100) (a + 5) (-1)) (a + 5) 0) (a + 6) (nx (A 106) (F 24) (a4))) (a + 7) v42, f42, a42, v42, rfl, (by (try simp only [wr_len]); omega), (by omega), (by omega), (by omega), fun q hq hq9 => by rw [rd_wr_n (by omega) (by omega) (by omega), rd_wr_n (by omega) (by omega) (by omega), rd_wr_n (by omega) (by omega) (by omega), rd_wr_n (by omega) (by omega) (by omega)], ?_⟩
        have c0 : F 26 = 0 := by omega
        have c32 : nx (A 106) (F 24) (F 25) = 32 := by omega
        have eI : wD (A 106) (F 24) IFF (F 26, F 25) = (f4, a4) := by simp only [IFF, wD, hw1, hw2, hw3, hw4]
        have e2 : t2 (A 106) (F 24) (F 26, F 25) = ((f4, a4), 0) := by
          unfold t2
          rw [eI, if_neg (by (try dsimp only); omega)]
        have e3 : t3 (A 106) (F 24) (F 26, F 25) = (1, a4) := by
          unfold t3
          rw [e2]
          (try dsimp only)
          rw [if_neg (fun z => by omega)]
        have e4 : dG (A 106) (F 24) 4 (t3 (A 106) (F 24) (F 26, F 25)) = ((f42, a42), v42) := by
          rw [e3]
          exact hw42
        have eS : tS (A 106) (F 24) (F 26, F 25) = (f42, a42) := by
          unfold tS
          rw [if_pos ⟨c0, c32⟩, e4]
        have eF : tF (A 106) (F 24) (F 26, F 25) = 0 := by
          unfold tF
          rw [if_pos ⟨c0, c32⟩, e2]
        have eG : tG (A 106) (F 24) (F 26, F 25) = nx (A 106) (F 24) (a4) := by
          unfold tG
          rw [e2]
        have eH : tH (A 106) (F 24) (F 26, F 25) = v42 := by
          unfold tH
          rw [e4]
        refine ⟨eS, fun z => ⟨?_, .inr ⟨?_, ?_⟩⟩⟩
        · rw [eF, rd_wr_n (by omega) (by omega) (by omega), rd_wr_n (by omega) (by omega) (by omega), rd_wr_s (by omega) (by (try simp only [wr_len]); omega)]
        · rw [eG, rd_wr_n (by omega) (by omega) (by omega), rd_wr_s (by omega) (by (try simp only [wr_len]); omega)]
        · rw [eH, rd_wr_s (by omega) (by (try simp only [wr_len]); omega)]
    · refine R_retv hc133 rfl rfl ⟨rfl, wr (A 100) (a + 5) (-1), F 26, F 25, F 27, rfl, (by (try simp only [wr_len]); omega), (by omega), (by omega), (by omega), fun q hq hq9 => by rw [rd_wr_n (by omega) (by omega) (by omega)], ?_, fun z => ⟨?_, .inl ?_⟩⟩
      · unfold tS
        rw [if_neg (fun z => by have := z.1; have := z.2; (try dsimp only at *); omega)]
      all_goals have e9 : tF (A 106) (F 24) (F 26, F 25) = -1 := by (unfold tF; rw [if_neg (fun z => by have := z.1; have := z.2; (try dsimp only at *); omega)])
      · rw [e9, rd_wr_s (by omega) (by omega)]
      · exact e9

theorem l_mfixed {A : Nat → List Int} {F : Nat → Int} (h24 : 0 ≤ F 24 ∧ F 24 ≤ 120) (h25 : 0 ≤ F 25 ∧ F 25 ≤ F 24) (h106 : (A 106).length = 120) (h100 : (A 100).length = 288) {a : Int} (ha : 0 ≤ a ∧ a + 8 ≤ 288) (h26 : F 26 = 0) {i : Nat} (hk : eK (A 106) (F 24) i (F 26, F 25) = 0) : R 134 (0, L0 134 [vR 88, vI a], [], LAY A F, 0, 0) (fun r G => r = none ∧ ∃ (l : List Int) (f at1 v : Int), G = LAY (u A 100 l) (u (u (u F 26 f) 25 at1) 27 v) ∧ l.length = 288 ∧ (f = 0 ∨ f = 1) ∧ 0 ≤ at1 ∧ at1 ≤ F 24 ∧ (∀ q : Int, 0 ≤ q → (q < a + 0 ∨ a + 7 < q) → rd l q = rd (A 100) q) ∧ eN (A 106) (F 24) i (F 26, F 25) = (f, at1) ∧ (f = 0 → eV (A 106) (F 24) i (F 26, F 25) (rd l a) (rd l (a + 1)) (rd l (a + 2)) (rd l (a + 3)) (rd l (a + 4)) (rd l (a + 5) + 1) (rd l (a + 6)) (rd l (a + 7)))) := by
  refine R_s (P := True) (f' := (0, [some (vR 88), some (vI a)], [], LAY (u A 100 (A 100)) (u (u (u F 26 (F 26)) 25 (F 25)) 27 (F 27)), 0, 0)) hc134 0 rfl trivial ?_
  refine R_s (P := (0 ≤ a ∧ a < ((A 100).length : Int)) ∧ True) (f' := (14, [some (vR 88), some (vI a)], [vI 120, vI 105, vI 102, vR 88], LAY (u A 100 (wr (A 100) a 0)) (u (u (u F 26 (F 26)) 25 (F 25)) 27 (F 27)), 0, 0)) hc134 9 rfl ⟨⟨by omega, by omega⟩, trivial⟩ ?_
  refine R_cv hc134 rfl rfl ?_ (fun r G h => h)
  refine R_s (P := True) (f' := (2, [some (vR 88), some (vI 102), some (vI 105), some (vI 120)], [vI 102, vR 88], LAY (u A 100 (wr (A 100) a 0)) (u (u (u F 26 (F 26)) 25 (F 25)) 27 (F 27)), 0, 0)) hc129 2 rfl trivial ?_
  refine R_cv hc129 rfl rfl (l_eats (A := (u A 100 (wr (A 100) a 0))) (F := (u (u (u F 26 (F 26)) 25 (F 25)) 27 (F 27))) h24 ⟨by (show 0 ≤ F 25); omega, by (show F 25 ≤ F 24); omega⟩ h106 (by show F 26 = 0 ∨ F 26 = 1; omega) (c := 102) (by decide)) (fun r G9 hp9 => ?_)
  obtain ⟨rfl, f43, a43, rfl, hf43, hw43, p43, q43⟩ := hp9
  have q43 : a43 ≤ F 24 := q43
  have hw43 : eE (A 106) (F 24) 102 (F 26, F 25) = (f43, a43) := hw43
  refine R_s (f' := (5, [some (vR 88), some (vI 102), some (vI 105), some (vI 120)], [], LAY (u A 100 (wr (A 100) a 0)) (u (u (u F 27 (F 27)) 26 f43) 25 a43), 0, 0)) hc129 0 rfl trivial ?_
  refine R_s (P := True) (f' := (7, [some (vR 88), some (vI 102), some (vI 105), some (vI 120)], [vI 105, vR 88], LAY (u A 100 (wr (A 100) a 0)) (u (u (u F 27 (F 27)) 26 f43) 25 a43), 0, 0)) hc129 2 rfl trivial ?_
  refine R_cv hc129 rfl rfl (l_eats (A := (u A 100 (wr (A 100) a 0))) (F := (u (u (u F 27 (F 27)) 26 f43) 25 a43)) h24 ⟨by (show 0 ≤ a43); omega, by (show a43 ≤ F 24); omega⟩ h106 (by show f43 = 0 ∨ f43 = 1; omega) (c := 105) (by decide)) (fun r G9 hp9 => ?_)
  obtain ⟨rfl, f44, a44, rfl, hf44, hw44, p44, q44⟩ := hp9
  have q44 : a44 ≤ F 24 := q44
  have hw44 : eE (A 106) (F 24) 105 (f43, a43) = (f44, a44) := hw44
  refine R_s (f' := (10, [some (vR 88), some (vI 102), some (vI 105), some (vI 120)], [], LAY (u A 100 (wr (A 100) a 0)) (u (u (u F 27 (F 27)) 26 f44) 25 a44), 0, 0)) hc129 0 rfl trivial ?_
  refine R_s (P := True) (f' := (12, [some (vR 88), some (vI 102), some (vI 105), some (vI 120)], [vI 120, vR 88], LAY (u A 100 (wr (A 100) a 0)) (u (u (u F 27 (F 27)) 26 f44) 25 a44), 0, 0)) hc129 2 rfl trivial ?_
  refine R_cv hc129 rfl rfl (l_eats (A := (u A 100 (wr (A 100) a 0))) (F := (u (u (u F 27 (F 27)) 26 f44) 25 a44)) h24 ⟨by (show 0 ≤ a44); omega, by (show a44 ≤ F 24); omega⟩ h106 (by show f44 = 0 ∨ f44 = 1; omega) (c := 120) (by decide)) (fun r G9 hp9 => ?_)
  obtain ⟨rfl, f45, a45, rfl, hf45, hw45, p45, q45⟩ := hp9
  have q45 : a45 ≤ F 24 := q45
  have hw45 : eE (A 106) (F 24) 120 (f44, a44) = (f45, a45) := hw45
  refine R_s (f' := (15, [some (vR 88), some (vI 102), some (vI 105), some (vI 120)], [], LAY (u A 100 (wr (A 100) a 0)) (u (u (u F 27 (F 27)) 26 f45) 25 a45), 0, 0)) hc129 0 rfl trivial ?_
  refine R_retv hc129 rfl rfl ?_
  refine R_s (f' := (17, [some (vR 88), some (vI a)], [], LAY (u A 100 (wr (A 100) a 0)) (u (u (u F 27 (F 27)) 26 f45) 25 a45), 0, 0)) hc134 0 rfl trivial ?_
  refine R_s (P := True) (f' := (20, [some (vR 88), some (vI a)], [vI 32, vR 88], LAY (u A 100 (wr (A 100) a 0)) (u (u (u F 27 (F 27)) 26 f45) 25 a45), 0, 0)) hc134 2 rfl trivial ?_
  refine R_cv hc134 rfl rfl (l_eats (A := (u A 100 (wr (A 100) a 0))) (F := (u (u (u F 27 (F 27)) 26 f45) 25 a45)) h24 ⟨by (show 0 ≤ a45); omega, by (show a45 ≤ F 24); omega⟩ h106 (by show f45 = 0 ∨ f45 = 1; omega) (c := 32) (by decide)) (fun r G9 hp9 => ?_)
  obtain ⟨rfl, f46, a46, rfl, hf46, hw46, p46, q46⟩ := hp9
  have q46 : a46 ≤ F 24 := q46
  have hw46 : eE (A 106) (F 24) 32 (f45, a45) = (f46, a46) := hw46
  refine R_s (f' := (23, [some (vR 88), some (vI a)], [], LAY (u A 100 (wr (A 100) a 0)) (u (u (u F 27 (F 27)) 26 f46) 25 a46), 0, 0)) hc134 0 rfl trivial ?_
  refine R_s (P := True) (f' := (25, [some (vR 88), some (vI a)], [vI 4, vR 88], LAY (u A 100 (wr (A 100) a 0)) (u (u (u F 27 (F 27)) 26 f46) 25 a46), 0, 0)) hc134 2 rfl trivial ?_
  refine R_cv hc134 rfl rfl (l_digs (A := (u A 100 (wr (A 100) a 0))) (F := (u (u (u F 27 (F 27)) 26 f46) 25 a46)) h24 ⟨by (show 0 ≤ a46); omega, by (show a46 ≤ F 24); omega⟩ h106 (by show f46 = 0 ∨ f46 = 1; omega) (kk := 4) (by decide) rfl) (fun r G9 hp9 => ?_)
  obtain ⟨rfl, f47, a47, v47, rfl, hf47, hw47, p47, q47, w47⟩ := hp9
  have q47 : a47 ≤ F 24 := q47
  have hw47 : dG (A 106) (F 24) 4 (f46, a46) = ((f47, a47), v47) := hw47
  refine R_s (f' := (28, [some (vR 88), some (vI a)], [], LAY (u A 100 (wr (A 100) a 0)) (u (u (u F 26 f47) 25 a47) 27 v47), 0, 0)) hc134 0 rfl trivial ?_
  refine R_s (P := inI (a + 1) ∧ (0 ≤ a + 1 ∧ a + 1 < ((wr (A 100) a 0).length : Int)) ∧ True) (f' := (43, [some (vR 88), some (vI a)], [vI 32, vR 88], LAY (u A 100 (wr (wr (A 100) a 0) (a + 1) v47)) (u (u (u F 26 f47) 25 a47) 27 v47), 0, 0)) hc134 10 rfl ⟨⟨by omega, by omega⟩, ⟨by omega, by simp only [wr_len]; omega⟩, trivial⟩ ?_
  refine R_cv hc134 rfl rfl (l_eats (A := (u A 100 (wr (wr (A 100) a 0) (a + 1) v47))) (F := (u (u (u F 26 f47) 25 a47) 27 v47)) h24 ⟨by (show 0 ≤ a47); omega, by (show a47 ≤ F 24); omega⟩ h106 (by show f47 = 0 ∨ f47 = 1; omega) (c := 32) (by decide)) (fun r G9 hp9 => ?_)
  obtain ⟨rfl, f48, a48, rfl, hf48, hw48, p48, q48⟩ := hp9
  have q48 : a48 ≤ F 24 := q48
  have hw48 : eE (A 106) (F 24) 32 (f47, a47) = (f48, a48) := hw48
  refine R_s (f' := (46, [some (vR 88), some (vI a)], [], LAY (u A 100 (wr (wr (A 100) a 0) (a + 1) v47)) (u (u (u F 27 v47) 26 f48) 25 a48), 0, 0)) hc134 0 rfl trivial ?_
  refine R_s (P := inI (a + 3) ∧ True) (f' := (54, [some (vR 88), some (vI a)], [vR 88, vI (a + 3), vR 100], LAY (u A 100 (wr (wr (A 100) a 0) (a + 1) v47)) (u (u (u F 27 v47) 26 f48) 25 a48), 0, 0)) hc134 6 rfl ⟨⟨by omega, by omega⟩, trivial⟩ ?_
  refine R_cv hc134 rfl rfl (l_house (A := (u A 100 (wr (wr (A 100) a 0) (a + 1) v47))) (F := (u (u (u F 27 v47) 26 f48) 25 a48)) h24 ⟨by (show 0 ≤ a48); omega, by (show a48 ≤ F 24); omega⟩ h106 (by show f48 = 0 ∨ f48 = 1; omega)) (fun r G9 hp9 => ?_)
  obtain ⟨f49, a49, h49, rfl, rfl, hf49, hw49, p49, q49, w49⟩ := hp9
  have q49 : a49 ≤ F 24 := q49
  have hw49 : hS (A 106) (F 24) (f48, a48) = ((f49, a49), h49) := hw49
  refine R_s (f' := (57, [some (vR 88), some (vI a)], [vI h49, vI (a + 3), vR 100], LAY (u A 100 (wr (wr (A 100) a 0) (a + 1) v47)) (u (u (u F 27 v47) 26 f49) 25 a49), 0, 0)) hc134 0 rfl trivial ?_
  refine R_s (P := (0 ≤ a + 3 ∧ a + 3 < ((wr (wr (A 100) a 0) (a + 1) v47).length : Int)) ∧ True) (f' := (60, [some (vR 88), some (vI a)], [vI a, vR 88], LAY (u A 100 (wr (wr (wr (A 100) a 0) (a + 1) v47) (a + 3) h49)) (u (u (u F 27 v47) 26 f49) 25 a49), 0, 0)) hc134 3 rfl ⟨⟨by omega, by simp only [wr_len]; omega⟩, trivial⟩ ?_
  refine R_cv hc134 rfl rfl (l_mtest (A := (u A 100 (wr (wr (wr (A 100) a 0) (a + 1) v47) (a + 3) h49))) (F := (u (u (u F 27 v47) 26 f49) 25 a49)) h24 ⟨by (show 0 ≤ a49); omega, by (show a49 ≤ F 24); omega⟩ h106 (by show (wr (wr (wr (A 100) a 0) (a + 1) v47) (a + 3) h49).length = 288; (try simp only [wr_len]); omega) ha (by show f49 = 0 ∨ f49 = 1; omega)) (fun r G9 hp9 => ?_)
  obtain ⟨rfl, m50, f50, a50, v50, rfl, lm50, hf50, p50, q50, km50, hw50, hv50⟩ := hp9
  have q50 : a50 ≤ F 24 := q50
  have km50 : ∀ q : Int, (0 ≤ q ∧ (q < a + 5 ∨ a + 7 < q)) → rd m50 q = rd (wr (wr (wr (A 100) a 0) (a + 1) v47) (a + 3) h49) q := fun q hq => km50 q hq.1 hq.2
  have hw50 : tS (A 106) (F 24) (f49, a49) = (f50, a50) := hw50
  have hv50 : f50 = 0 → rd m50 (a + 5) = tF (A 106) (F 24) (f49, a49) ∧ (tF (A 106) (F 24) (f49, a49) = -1 ∨ (rd m50 (a + 6) = tG (A 106) (F 24) (f49, a49) ∧ rd m50 (a + 7) = tH (A 106) (F 24) (f49, a49))) := hv50
  refine R_s (f' := (63, [some (vR 88), some (vI a)], [], LAY (u A 100 m50) (u (u (u F 26 f50) 25 a50) 27 v50), 0, 0)) hc134 0 rfl trivial ?_
  refine R_retv hc134 rfl rfl ⟨rfl, m50, f50, a50, v50, rfl, (by (try simp only [wr_len]); omega), (by omega), (by omega), (by omega), fun q hq hq9 => by rw [km50 q (by omega), rd_wr_n (by omega) (by omega) (by omega), rd_wr_n (by omega) (by omega) (by omega), rd_wr_n (by omega) (by omega) (by omega)], ?_⟩
  have eW : wD (A 106) (F 24) FIX (F 26, F 25) = (f46, a46) := by simp only [FIX, wD, hw43, hw44, hw45, hw46]
  have r0 : rd (m50) a = 0 := by rw [km50 _ (by omega), rd_wr_n (by omega) (by omega) (by omega), rd_wr_n (by omega) (by omega) (by omega), rd_wr_s (by omega) (by (try simp only [wr_len]); omega)]
  have eP : pN (A 106) (F 24) FIX (F 26, F 25) = ((f47, a47), v47) := by unfold pN; rw [eW, hw47]
  have eH : pH (A 106) (F 24) (F 26, F 25) = ((f49, a49), h49) := by
    unfold pH
    rw [eP]
    (try dsimp only)
    simp only [SPC, wD, hw48]
    exact hw49
  have eT : tB (A 106) (F 24) i (F 26, F 25) = (f49, a49) := by rw [(eN_0 hk).2, eH]
  have eS : eN (A 106) (F 24) i (F 26, F 25) = (f50, a50) := by rw [(eN_0 hk).1, eT]; exact hw50
  refine ⟨eS, fun q0 => ?_⟩
  have r1 : rd (m50) (a + 1) = v47 := by rw [km50 _ (by omega), rd_wr_n (by omega) (by omega) (by omega), rd_wr_s (by omega) (by (try simp only [wr_len]); omega)]
  have r3 : rd (m50) (a + 3) = h49 := by rw [km50 _ (by omega), rd_wr_s (by omega) (by (try simp only [wr_len]); omega)]
  exact ⟨by rw [r0, hk], fun _ => ⟨by rw [r1, eP], by rw [r3, eH]⟩, fun z => absurd (r0.symm.trans z) (by decide), fun z => absurd (r0.symm.trans z) (by decide), fun z => absurd (r0.symm.trans z) (by decide), fun _ => by
    rw [eT]
    have z := hv50 q0
    exact ⟨by rw [z.1], z.2.imp (fun w => by rw [z.1, w]; rfl) id⟩⟩

theorem l_mline {A : Nat → List Int} {F : Nat → Int} (h24 : 0 ≤ F 24 ∧ F 24 ≤ 120) (h25 : 0 ≤ F 25 ∧ F 25 ≤ F 24) (h106 : (A 106).length = 120) (h100 : (A 100).length = 288) {a : Int} (ha : 0 ≤ a ∧ a + 8 ≤ 288) (h26 : F 26 = 0) {i : Nat} (hk : eK (A 106) (F 24) i (F 26, F 25) = 1) : R 135 (0, L0 135 [vR 88, vI a], [], LAY A F, 0, 0) (fun r G => r = none ∧ ∃ (l : List Int) (f at1 v : Int), G = LAY (u A 100 l) (u (u (u F 26 f) 25 at1) 27 v) ∧ l.length = 288 ∧ (f = 0 ∨ f = 1) ∧ 0 ≤ at1 ∧ at1 ≤ F 24 ∧ (∀ q : Int, 0 ≤ q → (q < a + 0 ∨ a + 7 < q) → rd l q = rd (A 100) q) ∧ eN (A 106) (F 24) i (F 26, F 25) = (f, at1) ∧ (f = 0 → eV (A 106) (F 24) i (F 26, F 25) (rd l a) (rd l (a + 1)) (rd l (a + 2)) (rd l (a + 3)) (rd l (a + 4)) (rd l (a + 5) + 1) (rd l (a + 6)) (rd l (a + 7)))) := by
  refine R_s (P := True) (f' := (0, [some (vR 88), some (vI a)], [], LAY (u A 100 (A 100)) (u (u (u F 26 (F 26)) 25 (F 25)) 27 (F 27)), 0, 0)) hc135 0 rfl trivial ?_
  refine R_s (P := (0 ≤ a ∧ a < ((A 100).length : Int)) ∧ True) (f' := (14, [some (vR 88), some (vI a)], [vI 110, vI 105, vI 108, vR 88], LAY (u A 100 (wr (A 100) a 1)) (u (u (u F 26 (F 26)) 25 (F 25)) 27 (F 27)), 0, 0)) hc135 9 rfl ⟨⟨by omega, by omega⟩, trivial⟩ ?_
  refine R_cv hc135 rfl rfl ?_ (fun r G h => h)
  refine R_s (P := True) (f' := (2, [some (vR 88), some (vI 108), some (vI 105), some (vI 110)], [vI 108, vR 88], LAY (u A 100 (wr (A 100) a 1)) (u (u (u F 26 (F 26)) 25 (F 25)) 27 (F 27)), 0, 0)) hc129 2 rfl trivial ?_
  refine R_cv hc129 rfl rfl (l_eats (A := (u A 100 (wr (A 100) a 1))) (F := (u (u (u F 26 (F 26)) 25 (F 25)) 27 (F 27))) h24 ⟨by (show 0 ≤ F 25); omega, by (show F 25 ≤ F 24); omega⟩ h106 (by show F 26 = 0 ∨ F 26 = 1; omega) (c := 108) (by decide)) (fun r G9 hp9 => ?_)
  obtain ⟨rfl, f51, a51, rfl, hf51, hw51, p51, q51⟩ := hp9
  have q51 : a51 ≤ F 24 := q51
  have hw51 : eE (A 106) (F 24) 108 (F 26, F 25) = (f51, a51) := hw51
  refine R_s (f' := (5, [some (vR 88), some (vI 108), some (vI 105), some (vI 110)], [], LAY (u A 100 (wr (A 100) a 1)) (u (u (u F 27 (F 27)) 26 f51) 25 a51), 0, 0)) hc129 0 rfl trivial ?_
  refine R_s (P := True) (f' := (7, [some (vR 88), some (vI 108), some (vI 105), some (vI 110)], [vI 105, vR 88], LAY (u A 100 (wr (A 100) a 1)) (u (u (u F 27 (F 27)) 26 f51) 25 a51), 0, 0)) hc129 2 rfl trivial ?_
  refine R_cv hc129 rfl rfl (l_eats (A := (u A 100 (wr (A 100) a 1))) (F := (u (u (u F 27 (F 27)) 26 f51) 25 a51)) h24 ⟨by (show 0 ≤ a51); omega, by (show a51 ≤ F 24); omega⟩ h106 (by show f51 = 0 ∨ f51 = 1; omega) (c := 105) (by decide)) (fun r G9 hp9 => ?_)
  obtain ⟨rfl, f52, a52, rfl, hf52, hw52, p52, q52⟩ := hp9
  have q52 : a52 ≤ F 24 := q52
  have hw52 : eE (A 106) (F 24) 105 (f51, a51) = (f52, a52) := hw52
  refine R_s (f' := (10, [some (vR 88), some (vI 108), some (vI 105), some (vI 110)], [], LAY (u A 100 (wr (A 100) a 1)) (u (u (u F 27 (F 27)) 26 f52) 25 a52), 0, 0)) hc129 0 rfl trivial ?_
  refine R_s (P := True) (f' := (12, [some (vR 88), some (vI 108), some (vI 105), some (vI 110)], [vI 110, vR 88], LAY (u A 100 (wr (A 100) a 1)) (u (u (u F 27 (F 27)) 26 f52) 25 a52), 0, 0)) hc129 2 rfl trivial ?_
  refine R_cv hc129 rfl rfl (l_eats (A := (u A 100 (wr (A 100) a 1))) (F := (u (u (u F 27 (F 27)) 26 f52) 25 a52)) h24 ⟨by (show 0 ≤ a52); omega, by (show a52 ≤ F 24); omega⟩ h106 (by show f52 = 0 ∨ f52 = 1; omega) (c := 110) (by decide)) (fun r G9 hp9 => ?_)
  obtain ⟨rfl, f53, a53, rfl, hf53, hw53, p53, q53⟩ := hp9
  have q53 : a53 ≤ F 24 := q53
  have hw53 : eE (A 106) (F 24) 110 (f52, a52) = (f53, a53) := hw53
  refine R_s (f' := (15, [some (vR 88), some (vI 108), some (vI 105), some (vI 110)], [], LAY (u A 100 (wr (A 100) a 1)) (u (u (u F 27 (F 27)) 26 f53) 25 a53), 0, 0)) hc129 0 rfl trivial ?_
  refine R_retv hc129 rfl rfl ?_
  refine R_s (f' := (17, [some (vR 88), some (vI a)], [], LAY (u A 100 (wr (A 100) a 1)) (u (u (u F 27 (F 27)) 26 f53) 25 a53), 0, 0)) hc135 0 rfl trivial ?_
  refine R_s (P := True) (f' := (20, [some (vR 88), some (vI a)], [vI 101, vR 88], LAY (u A 100 (wr (A 100) a 1)) (u (u (u F 27 (F 27)) 26 f53) 25 a53), 0, 0)) hc135 2 rfl trivial ?_
  refine R_cv hc135 rfl rfl (l_eats (A := (u A 100 (wr (A 100) a 1))) (F := (u (u (u F 27 (F 27)) 26 f53) 25 a53)) h24 ⟨by (show 0 ≤ a53); omega, by (show a53 ≤ F 24); omega⟩ h106 (by show f53 = 0 ∨ f53 = 1; omega) (c := 101) (by decide)) (fun r G9 hp9 => ?_)
  obtain ⟨rfl, f54, a54, rfl, hf54, hw54, p54, q54⟩ := hp9
  have q54 : a54 ≤ F 24 := q54
  have hw54 : eE (A 106) (F 24) 101 (f53, a53) = (f54, a54) := hw54
  refine R_s (f' := (23, [some (vR 88), some (vI a)], [], LAY (u A 100 (wr (A 100) a 1)) (u (u (u F 27 (F 27)) 26 f54) 25 a54), 0, 0)) hc135 0 rfl trivial ?_
  refine R_s (P := True) (f' := (26, [some (vR 88), some (vI a)], [vI 32, vR 88], LAY (u A 100 (wr (A 100) a 1)) (u (u (u F 27 (F 27)) 26 f54) 25 a54), 0, 0)) hc135 2 rfl trivial ?_
  refine R_cv hc135 rfl rfl (l_eats (A := (u A 100 (wr (A 100) a 1))) (F := (u (u (u F 27 (F 27)) 26 f54) 25 a54)) h24 ⟨by (show 0 ≤ a54); omega, by (show a54 ≤ F 24); omega⟩ h106 (by show f54 = 0 ∨ f54 = 1; omega) (c := 32) (by decide)) (fun r G9 hp9 => ?_)
  obtain ⟨rfl, f55, a55, rfl, hf55, hw55, p55, q55⟩ := hp9
  have q55 : a55 ≤ F 24 := q55
  have hw55 : eE (A 106) (F 24) 32 (f54, a54) = (f55, a55) := hw55
  refine R_s (f' := (29, [some (vR 88), some (vI a)], [], LAY (u A 100 (wr (A 100) a 1)) (u (u (u F 27 (F 27)) 26 f55) 25 a55), 0, 0)) hc135 0 rfl trivial ?_
  refine R_s (P := True) (f' := (31, [some (vR 88), some (vI a)], [vI 4, vR 88], LAY (u A 100 (wr (A 100) a 1)) (u (u (u F 27 (F 27)) 26 f55) 25 a55), 0, 0)) hc135 2 rfl trivial ?_
  refine R_cv hc135 rfl rfl (l_digs (A := (u A 100 (wr (A 100) a 1))) (F := (u (u (u F 27 (F 27)) 26 f55) 25 a55)) h24 ⟨by (show 0 ≤ a55); omega, by (show a55 ≤ F 24); omega⟩ h106 (by show f55 = 0 ∨ f55 = 1; omega) (kk := 4) (by decide) rfl) (fun r G9 hp9 => ?_)
  obtain ⟨rfl, f56, a56, v56, rfl, hf56, hw56, p56, q56, w56⟩ := hp9
  have q56 : a56 ≤ F 24 := q56
  have hw56 : dG (A 106) (F 24) 4 (f55, a55) = ((f56, a56), v56) := hw56
  refine R_s (f' := (34, [some (vR 88), some (vI a)], [], LAY (u A 100 (wr (A 100) a 1)) (u (u (u F 26 f56) 25 a56) 27 v56), 0, 0)) hc135 0 rfl trivial ?_
  refine R_s (P := inI (a + 1) ∧ (0 ≤ a + 1 ∧ a + 1 < ((wr (A 100) a 1).length : Int)) ∧ True) (f' := (49, [some (vR 88), some (vI a)], [vI 32, vR 88], LAY (u A 100 (wr (wr (A 100) a 1) (a + 1) v56)) (u (u (u F 26 f56) 25 a56) 27 v56), 0, 0)) hc135 10 rfl ⟨⟨by omega, by omega⟩, ⟨by omega, by simp only [wr_len]; omega⟩, trivial⟩ ?_
  refine R_cv hc135 rfl rfl (l_eats (A := (u A 100 (wr (wr (A 100) a 1) (a + 1) v56))) (F := (u (u (u F 26 f56) 25 a56) 27 v56)) h24 ⟨by (show 0 ≤ a56); omega, by (show a56 ≤ F 24); omega⟩ h106 (by show f56 = 0 ∨ f56 = 1; omega) (c := 32) (by decide)) (fun r G9 hp9 => ?_)
  obtain ⟨rfl, f57, a57, rfl, hf57, hw57, p57, q57⟩ := hp9
  have q57 : a57 ≤ F 24 := q57
  have hw57 : eE (A 106) (F 24) 32 (f56, a56) = (f57, a57) := hw57
  refine R_s (f' := (52, [some (vR 88), some (vI a)], [], LAY (u A 100 (wr (wr (A 100) a 1) (a + 1) v56)) (u (u (u F 27 v56) 26 f57) 25 a57), 0, 0)) hc135 0 rfl trivial ?_
  refine R_s (P := True) (f' := (55, [some (vR 88), some (vI a)], [vI 112, vR 88], LAY (u A 100 (wr (wr (A 100) a 1) (a + 1) v56)) (u (u (u F 27 v56) 26 f57) 25 a57), 0, 0)) hc135 2 rfl trivial ?_
  refine R_cv hc135 rfl rfl (l_eats (A := (u A 100 (wr (wr (A 100) a 1) (a + 1) v56))) (F := (u (u (u F 27 v56) 26 f57) 25 a57)) h24 ⟨by (show 0 ≤ a57); omega, by (show a57 ≤ F 24); omega⟩ h106 (by show f57 = 0 ∨ f57 = 1; omega) (c := 112) (by decide)) (fun r G9 hp9 => ?_)
  obtain ⟨rfl, f58, a58, rfl, hf58, hw58, p58, q58⟩ := hp9
  have q58 : a58 ≤ F 24 := q58
  have hw58 : eE (A 106) (F 24) 112 (f57, a57) = (f58, a58) := hw58
  refine R_s (f' := (58, [some (vR 88), some (vI a)], [], LAY (u A 100 (wr (wr (A 100) a 1) (a + 1) v56)) (u (u (u F 27 v56) 26 f58) 25 a58), 0, 0)) hc135 0 rfl trivial ?_
  refine R_s (P := True) (f' := (60, [some (vR 88), some (vI a)], [vI 2, vR 88], LAY (u A 100 (wr (wr (A 100) a 1) (a + 1) v56)) (u (u (u F 27 v56) 26 f58) 25 a58), 0, 0)) hc135 2 rfl trivial ?_
  refine R_cv hc135 rfl rfl (l_digs (A := (u A 100 (wr (wr (A 100) a 1) (a + 1) v56))) (F := (u (u (u F 27 v56) 26 f58) 25 a58)) h24 ⟨by (show 0 ≤ a58); omega, by (show a58 ≤ F 24); omega⟩ h106 (by show f58 = 0 ∨ f58 = 1; omega) (kk := 2) (by decide) rfl) (fun r G9 hp9 => ?_)
  obtain ⟨rfl, f59, a59, v59, rfl, hf59, hw59, p59, q59, w59⟩ := hp9
  have q59 : a59 ≤ F 24 := q59
  have hw59 : dG (A 106) (F 24) 2 (f58, a58) = ((f59, a59), v59) := hw59
  refine R_s (f' := (63, [some (vR 88), some (vI a)], [], LAY (u A 100 (wr (wr (A 100) a 1) (a + 1) v56)) (u (u (u F 26 f59) 25 a59) 27 v59), 0, 0)) hc135 0 rfl trivial ?_
  refine R_s (P := inI (a + 2) ∧ (0 ≤ a + 2 ∧ a + 2 < ((wr (wr (A 100) a 1) (a + 1) v56).length : Int)) ∧ True) (f' := (78, [some (vR 88), some (vI a)], [vI 32, vR 88], LAY (u A 100 (wr (wr (wr (A 100) a 1) (a + 1) v56) (a + 2) v59)) (u (u (u F 26 f59) 25 a59) 27 v59), 0, 0)) hc135 10 rfl ⟨⟨by omega, by omega⟩, ⟨by omega, by simp only [wr_len]; omega⟩, trivial⟩ ?_
  refine R_cv hc135 rfl rfl (l_eats (A := (u A 100 (wr (wr (wr (A 100) a 1) (a + 1) v56) (a + 2) v59))) (F := (u (u (u F 26 f59) 25 a59) 27 v59)) h24 ⟨by (show 0 ≤ a59); omega, by (show a59 ≤ F 24); omega⟩ h106 (by show f59 = 0 ∨ f59 = 1; omega) (c := 32) (by decide)) (fun r G9 hp9 => ?_)
  obtain ⟨rfl, f60, a60, rfl, hf60, hw60, p60, q60⟩ := hp9
  have q60 : a60 ≤ F 24 := q60
  have hw60 : eE (A 106) (F 24) 32 (f59, a59) = (f60, a60) := hw60
  refine R_s (f' := (81, [some (vR 88), some (vI a)], [], LAY (u A 100 (wr (wr (wr (A 100) a 1) (a + 1) v56) (a + 2) v59)) (u (u (u F 27 v59) 26 f60) 25 a60), 0, 0)) hc135 0 rfl trivial ?_
  refine R_s (P := True) (f' := (85, [some (vR 88), some (vI a)], [vI f60], LAY (u A 100 (wr (wr (wr (A 100) a 1) (a + 1) v56) (a + 2) v59)) (u (u (u F 27 v59) 26 f60) 25 a60), 0, 0)) hc135 2 rfl trivial ?_
  refine R_if (t := 125) hc135 rfl rfl (fun (c1 : ¬ f60 = 0) => ?_) (fun (c1 : ¬ (¬ f60 = 0)) => ?_)
  · refine R_s (P := True) (f' := (132, [some (vR 88), some (vI a)], [vI 97, vI 101, vI 104, vR 88], LAY (u A 100 (wr (wr (wr (A 100) a 1) (a + 1) v56) (a + 2) v59)) (u (u (u F 27 v59) 26 f60) 25 a60), 0, 0)) hc135 4 rfl trivial ?_
    refine R_cv hc135 rfl rfl ?_ (fun r G h => h)
    refine R_s (P := True) (f' := (2, [some (vR 88), some (vI 104), some (vI 101), some (vI 97)], [vI 104, vR 88], LAY (u A 100 (wr (wr (wr (A 100) a 1) (a + 1) v56) (a + 2) v59)) (u (u (u F 27 v59) 26 f60) 25 a60), 0, 0)) hc129 2 rfl trivial ?_
    refine R_cv hc129 rfl rfl (l_eats (A := (u A 100 (wr (wr (wr (A 100) a 1) (a + 1) v56) (a + 2) v59))) (F := (u (u (u F 27 v59) 26 f60) 25 a60)) h24 ⟨by (show 0 ≤ a60); omega, by (show a60 ≤ F 24); omega⟩ h106 (by show f60 = 0 ∨ f60 = 1; omega) (c := 104) (by decide)) (fun r G9 hp9 => ?_)
    obtain ⟨rfl, f61, a61, rfl, hf61, hw61, p61, q61⟩ := hp9
    have q61 : a61 ≤ F 24 := q61
    have hw61 : eE (A 106) (F 24) 104 (f60, a60) = (f61, a61) := hw61
    refine R_s (f' := (5, [some (vR 88), some (vI 104), some (vI 101), some (vI 97)], [], LAY (u A 100 (wr (wr (wr (A 100) a 1) (a + 1) v56) (a + 2) v59)) (u (u (u F 27 v59) 26 f61) 25 a61), 0, 0)) hc129 0 rfl trivial ?_
    refine R_s (P := True) (f' := (7, [some (vR 88), some (vI 104), some (vI 101), some (vI 97)], [vI 101, vR 88], LAY (u A 100 (wr (wr (wr (A 100) a 1) (a + 1) v56) (a + 2) v59)) (u (u (u F 27 v59) 26 f61) 25 a61), 0, 0)) hc129 2 rfl trivial ?_
    refine R_cv hc129 rfl rfl (l_eats (A := (u A 100 (wr (wr (wr (A 100) a 1) (a + 1) v56) (a + 2) v59))) (F := (u (u (u F 27 v59) 26 f61) 25 a61)) h24 ⟨by (show 0 ≤ a61); omega, by (show a61 ≤ F 24); omega⟩ h106 (by show f61 = 0 ∨ f61 = 1; omega) (c := 101) (by decide)) (fun r G9 hp9 => ?_)
    obtain ⟨rfl, f62, a62, rfl, hf62, hw62, p62, q62⟩ := hp9
    have q62 : a62 ≤ F 24 := q62
    have hw62 : eE (A 106) (F 24) 101 (f61, a61) = (f62, a62) := hw62
    refine R_s (f' := (10, [some (vR 88), some (vI 104), some (vI 101), some (vI 97)], [], LAY (u A 100 (wr (wr (wr (A 100) a 1) (a + 1) v56) (a + 2) v59)) (u (u (u F 27 v59) 26 f62) 25 a62), 0, 0)) hc129 0 rfl trivial ?_
    refine R_s (P := True) (f' := (12, [some (vR 88), some (vI 104), some (vI 101), some (vI 97)], [vI 97, vR 88], LAY (u A 100 (wr (wr (wr (A 100) a 1) (a + 1) v56) (a + 2) v59)) (u (u (u F 27 v59) 26 f62) 25 a62), 0, 0)) hc129 2 rfl trivial ?_
    refine R_cv hc129 rfl rfl (l_eats (A := (u A 100 (wr (wr (wr (A 100) a 1) (a + 1) v56) (a + 2) v59))) (F := (u (u (u F 27 v59) 26 f62) 25 a62)) h24 ⟨by (show 0 ≤ a62); omega, by (show a62 ≤ F 24); omega⟩ h106 (by show f62 = 0 ∨ f62 = 1; omega) (c := 97) (by decide)) (fun r G9 hp9 => ?_)
    obtain ⟨rfl, f63, a63, rfl, hf63, hw63, p63, q63⟩ := hp9
    have q63 : a63 ≤ F 24 := q63
    have hw63 : eE (A 106) (F 24) 97 (f62, a62) = (f63, a63) := hw63
    refine R_s (f' := (15, [some (vR 88), some (vI 104), some (vI 101), some (vI 97)], [], LAY (u A 100 (wr (wr (wr (A 100) a 1) (a + 1) v56) (a + 2) v59)) (u (u (u F 27 v59) 26 f63) 25 a63), 0, 0)) hc129 0 rfl trivial ?_
    refine R_retv hc129 rfl rfl ?_
    refine R_s (f' := (135, [some (vR 88), some (vI a)], [], LAY (u A 100 (wr (wr (wr (A 100) a 1) (a + 1) v56) (a + 2) v59)) (u (u (u F 27 v59) 26 f63) 25 a63), 0, 0)) hc135 0 rfl trivial ?_
    refine R_s (P := True) (f' := (138, [some (vR 88), some (vI a)], [vI 100, vR 88], LAY (u A 100 (wr (wr (wr (A 100) a 1) (a + 1) v56) (a + 2) v59)) (u (u (u F 27 v59) 26 f63) 25 a63), 0, 0)) hc135 2 rfl trivial ?_
    refine R_cv hc135 rfl rfl (l_eats (A := (u A 100 (wr (wr (wr (A 100) a 1) (a + 1) v56) (a + 2) v59))) (F := (u (u (u F 27 v59) 26 f63) 25 a63)) h24 ⟨by (show 0 ≤ a63); omega, by (show a63 ≤ F 24); omega⟩ h106 (by show f63 = 0 ∨ f63 = 1; omega) (c := 100) (by decide)) (fun r G9 hp9 => ?_)
    obtain ⟨rfl, f64, a64, rfl, hf64, hw64, p64, q64⟩ := hp9
    have q64 : a64 ≤ F 24 := q64
    have hw64 : eE (A 106) (F 24) 100 (f63, a63) = (f64, a64) := hw64
    refine R_s (f' := (141, [some (vR 88), some (vI a)], [], LAY (u A 100 (wr (wr (wr (A 100) a 1) (a + 1) v56) (a + 2) v59)) (u (u (u F 27 v59) 26 f64) 25 a64), 0, 0)) hc135 0 rfl trivial ?_
    refine R_s (P := True) (f' := (144, [some (vR 88), some (vI a)], [vI 115, vR 88], LAY (u A 100 (wr (wr (wr (A 100) a 1) (a + 1) v56) (a + 2) v59)) (u (u (u F 27 v59) 26 f64) 25 a64), 0, 0)) hc135 2 rfl trivial ?_
    refine R_cv hc135 rfl rfl (l_eats (A := (u A 100 (wr (wr (wr (A 100) a 1) (a + 1) v56) (a + 2) v59))) (F := (u (u (u F 27 v59) 26 f64) 25 a64)) h24 ⟨by (show 0 ≤ a64); omega, by (show a64 ≤ F 24); omega⟩ h106 (by show f64 = 0 ∨ f64 = 1; omega) (c := 115) (by decide)) (fun r G9 hp9 => ?_)
    obtain ⟨rfl, f65, a65, rfl, hf65, hw65, p65, q65⟩ := hp9
    have q65 : a65 ≤ F 24 := q65
    have hw65 : eE (A 106) (F 24) 115 (f64, a64) = (f65, a65) := hw65
    refine R_s (f' := (147, [some (vR 88), some (vI a)], [], LAY (u A 100 (wr (wr (wr (A 100) a 1) (a + 1) v56) (a + 2) v59)) (u (u (u F 27 v59) 26 f65) 25 a65), 0, 0)) hc135 0 rfl trivial ?_
    refine R_s (P := inI (a + 4) ∧ (0 ≤ a + 4 ∧ a + 4 < ((wr (wr (wr (A 100) a 1) (a + 1) v56) (a + 2) v59).length : Int)) ∧ True) (f' := (158, [some (vR 88), some (vI a)], [vI a, vR 88], LAY (u A 100 (wr (wr (wr (wr (A 100) a 1) (a + 1) v56) (a + 2) v59) (a + 4) 1)) (u (u (u F 27 v59) 26 f65) 25 a65), 0, 0)) hc135 9 rfl ⟨⟨by omega, by omega⟩, ⟨by omega, by simp only [wr_len]; omega⟩, trivial⟩ ?_
    refine R_cv hc135 rfl rfl (l_mtest (A := (u A 100 (wr (wr (wr (wr (A 100) a 1) (a + 1) v56) (a + 2) v59) (a + 4) 1))) (F := (u (u (u F 27 v59) 26 f65) 25 a65)) h24 ⟨by (show 0 ≤ a65); omega, by (show a65 ≤ F 24); omega⟩ h106 (by show (wr (wr (wr (wr (A 100) a 1) (a + 1) v56) (a + 2) v59) (a + 4) 1).length = 288; (try simp only [wr_len]); omega) ha (by show f65 = 0 ∨ f65 = 1; omega)) (fun r G9 hp9 => ?_)
    obtain ⟨rfl, m66, f66, a66, v66, rfl, lm66, hf66, p66, q66, km66, hw66, hv66⟩ := hp9
    have q66 : a66 ≤ F 24 := q66
    have km66 : ∀ q : Int, (0 ≤ q ∧ (q < a + 5 ∨ a + 7 < q)) → rd m66 q = rd (wr (wr (wr (wr (A 100) a 1) (a + 1) v56) (a + 2) v59) (a + 4) 1) q := fun q hq => km66 q hq.1 hq.2
    have hw66 : tS (A 106) (F 24) (f65, a65) = (f66, a66) := hw66
    have hv66 : f66 = 0 → rd m66 (a + 5) = tF (A 106) (F 24) (f65, a65) ∧ (tF (A 106) (F 24) (f65, a65) = -1 ∨ (rd m66 (a + 6) = tG (A 106) (F 24) (f65, a65) ∧ rd m66 (a + 7) = tH (A 106) (F 24) (f65, a65))) := hv66
    refine R_s (f' := (161, [some (vR 88), some (vI a)], [], LAY (u A 100 m66) (u (u (u F 26 f66) 25 a66) 27 v66), 0, 0)) hc135 0 rfl trivial ?_
    refine R_retv hc135 rfl rfl ⟨rfl, m66, f66, a66, v66, rfl, (by (try simp only [wr_len]); omega), (by omega), (by omega), (by omega), fun q hq hq9 => by rw [km66 q (by omega), rd_wr_n (by omega) (by omega) (by omega), rd_wr_n (by omega) (by omega) (by omega), rd_wr_n (by omega) (by omega) (by omega), rd_wr_n (by omega) (by omega) (by omega)], ?_⟩
    have eW : wD (A 106) (F 24) LINE (F 26, F 25) = (f55, a55) := by simp only [LINE, wD, hw51, hw52, hw53, hw54, hw55]
    have r0 : rd (m66) a = 1 := by rw [km66 _ (by omega), rd_wr_n (by omega) (by omega) (by omega), rd_wr_n (by omega) (by omega) (by omega), rd_wr_n (by omega) (by omega) (by omega), rd_wr_s (by omega) (by (try simp only [wr_len]); omega)]
    have eP : pN (A 106) (F 24) LINE (F 26, F 25) = ((f56, a56), v56) := by unfold pN; rw [eW, hw56]
    have eR : pR (A 106) (F 24) LINE (F 26, F 25) = ((f59, a59), v59) := by
      unfold pR
      rw [eP]
      (try dsimp only)
      simp only [PP, wD, hw57, hw58]
      exact hw59
    have eL : pL (A 106) (F 24) (F 26, F 25) = (f60, a60) := by
      unfold pL
      rw [eR]
      (try dsimp only)
      simp only [SPC, wD, hw60]
    have eT : tB (A 106) (F 24) i (F 26, F 25) = (f65, a65) := by
      rw [(eN_1 hk).2, eL]
      (try dsimp only)
      have eHd : wD (A 106) (F 24) HEADS (f60, a60) = (f65, a65) := by simp only [HEADS, wD, hw61, hw62, hw63, hw64, hw65]
      by_cases z : nx (A 106) (F 24) (a60) = 115
      · have z1 : f60 = 1 := by omega
        rw [if_pos z, ← eHd, z1, wD_f, wD_f]
      · rw [if_neg z, eHd]
    have eS : eN (A 106) (F 24) i (F 26, F 25) = (f66, a66) := by rw [(eN_1 hk).1, eT]; exact hw66
    refine ⟨eS, fun q0 => ?_⟩
    have r1 : rd (m66) (a + 1) = v56 := by rw [km66 _ (by omega), rd_wr_n (by omega) (by omega) (by omega), rd_wr_n (by omega) (by omega) (by omega), rd_wr_s (by omega) (by (try simp only [wr_len]); omega)]
    have r2 : rd (m66) (a + 2) = v59 := by rw [km66 _ (by omega), rd_wr_n (by omega) (by omega) (by omega), rd_wr_s (by omega) (by (try simp only [wr_len]); omega)]
    have r4 : rd (m66) (a + 4) = 1 := by rw [km66 _ (by omega), rd_wr_s (by omega) (by (try simp only [wr_len]); omega)]
    have hns : ¬ nx (A 106) (F 24) (a60) = 115 := fun z => by
      have z1 : f60 = 1 := by omega
      have z2 : wD (A 106) (F 24) HEADS (f60, a60) = (f65, a65) := by simp only [HEADS, wD, hw61, hw62, hw63, hw64, hw65]
      rw [z1, wD_f] at z2
      have z3 : f65 = 1 := (congrArg Prod.fst z2).symm
      have z4 := hw66
      rw [z3, tS_f] at z4
      have z5 : f66 = 1 := (congrArg Prod.fst z4).symm
      omega
    exact ⟨by rw [r0, hk], fun z => absurd (r0.symm.trans z) (by decide), fun _ => ⟨by rw [r1, eP], by rw [r2, eR], by rw [r4, eL]; (try dsimp only); rw [if_neg hns]⟩, fun z => absurd (r0.symm.trans z) (by decide), fun z => absurd (r0.symm.trans z) (by decide), fun _ => by
      rw [eT]
      have z := hv66 q0
      exact ⟨by rw [z.1], z.2.imp (fun w => by rw [z.1, w]; rfl) id⟩⟩
  · refine R_s (P := True) (f' := (89, [some (vR 88), some (vI a)], [vR 88], LAY (u A 100 (wr (wr (wr (A 100) a 1) (a + 1) v56) (a + 2) v59)) (u (u (u F 27 v59) 26 f60) 25 a60), 0, 0)) hc135 1 rfl trivial ?_
    refine R_cv hc135 rfl rfl (l_here (A := (u A 100 (wr (wr (wr (A 100) a 1) (a + 1) v56) (a + 2) v59))) (F := (u (u (u F 27 v59) 26 f60) 25 a60)) h24 ⟨by (show 0 ≤ a60); omega, by (show a60 ≤ F 24); omega⟩ h106) (fun r G9 hp9 => ?_)
    obtain ⟨e1, rfl⟩ := hp9
    have e2 : r = some (vI (nx (A 106) (F 24) (a60))) := e1
    clear e1
    subst e2
    refine R_s (f' := (92, [some (vR 88), some (vI a)], [vI (nx (A 106) (F 24) (a60))], LAY (u A 100 (wr (wr (wr (A 100) a 1) (a + 1) v56) (a + 2) v59)) (u (u (u F 27 v59) 26 f60) 25 a60), 0, 0)) hc135 0 rfl trivial ?_
    refine R_s (P := True) (f' := (94, [some (vR 88), some (vI a)], [vI 115, vI (nx (A 106) (F 24) (a60))], LAY (u A 100 (wr (wr (wr (A 100) a 1) (a + 1) v56) (a + 2) v59)) (u (u (u F 27 v59) 26 f60) 25 a60), 0, 0)) hc135 1 rfl trivial ?_
    refine R_ic (t := 125) hc135 rfl rfl (fun (c2 : ¬ nx (A 106) (F 24) (a60) = 115) => ?_) (fun (c2 : ¬ (¬ nx (A 106) (F 24) (a60) = 115)) => ?_)
    · refine R_s (P := True) (f' := (132, [some (vR 88), some (vI a)], [vI 97, vI 101, vI 104, vR 88], LAY (u A 100 (wr (wr (wr (A 100) a 1) (a + 1) v56) (a + 2) v59)) (u (u (u F 27 v59) 26 f60) 25 a60), 0, 0)) hc135 4 rfl trivial ?_
      refine R_cv hc135 rfl rfl ?_ (fun r G h => h)
      refine R_s (P := True) (f' := (2, [some (vR 88), some (vI 104), some (vI 101), some (vI 97)], [vI 104, vR 88], LAY (u A 100 (wr (wr (wr (A 100) a 1) (a + 1) v56) (a + 2) v59)) (u (u (u F 27 v59) 26 f60) 25 a60), 0, 0)) hc129 2 rfl trivial ?_
      refine R_cv hc129 rfl rfl (l_eats (A := (u A 100 (wr (wr (wr (A 100) a 1) (a + 1) v56) (a + 2) v59))) (F := (u (u (u F 27 v59) 26 f60) 25 a60)) h24 ⟨by (show 0 ≤ a60); omega, by (show a60 ≤ F 24); omega⟩ h106 (by show f60 = 0 ∨ f60 = 1; omega) (c := 104) (by decide)) (fun r G9 hp9 => ?_)
      obtain ⟨rfl, f67, a67, rfl, hf67, hw67, p67, q67⟩ := hp9
      have q67 : a67 ≤ F 24 := q67
      have hw67 : eE (A 106) (F 24) 104 (f60, a60) = (f67, a67) := hw67
      refine R_s (f' := (5, [some (vR 88), some (vI 104), some (vI 101), some (vI 97)], [], LAY (u A 100 (wr (wr (wr (A 100) a 1) (a + 1) v56) (a + 2) v59)) (u (u (u F 27 v59) 26 f67) 25 a67), 0, 0)) hc129 0 rfl trivial ?_
      refine R_s (P := True) (f' := (7, [some (vR 88), some (vI 104), some (vI 101), some (vI 97)], [vI 101, vR 88], LAY (u A 100 (wr (wr (wr (A 100) a 1) (a + 1) v56) (a + 2) v59)) (u (u (u F 27 v59) 26 f67) 25 a67), 0, 0)) hc129 2 rfl trivial ?_
      refine R_cv hc129 rfl rfl (l_eats (A := (u A 100 (wr (wr (wr (A 100) a 1) (a + 1) v56) (a + 2) v59))) (F := (u (u (u F 27 v59) 26 f67) 25 a67)) h24 ⟨by (show 0 ≤ a67); omega, by (show a67 ≤ F 24); omega⟩ h106 (by show f67 = 0 ∨ f67 = 1; omega) (c := 101) (by decide)) (fun r G9 hp9 => ?_)
      obtain ⟨rfl, f68, a68, rfl, hf68, hw68, p68, q68⟩ := hp9
      have q68 : a68 ≤ F 24 := q68
      have hw68 : eE (A 106) (F 24) 101 (f67, a67) = (f68, a68) := hw68
      refine R_s (f' := (10, [some (vR 88), some (vI 104), some (vI 101), some (vI 97)], [], LAY (u A 100 (wr (wr (wr (A 100) a 1) (a + 1) v56) (a + 2) v59)) (u (u (u F 27 v59) 26 f68) 25 a68), 0, 0)) hc129 0 rfl trivial ?_
      refine R_s (P := True) (f' := (12, [some (vR 88), some (vI 104), some (vI 101), some (vI 97)], [vI 97, vR 88], LAY (u A 100 (wr (wr (wr (A 100) a 1) (a + 1) v56) (a + 2) v59)) (u (u (u F 27 v59) 26 f68) 25 a68), 0, 0)) hc129 2 rfl trivial ?_
      refine R_cv hc129 rfl rfl (l_eats (A := (u A 100 (wr (wr (wr (A 100) a 1) (a + 1) v56) (a + 2) v59))) (F := (u (u (u F 27 v59) 26 f68) 25 a68)) h24 ⟨by (show 0 ≤ a68); omega, by (show a68 ≤ F 24); omega⟩ h106 (by show f68 = 0 ∨ f68 = 1; omega) (c := 97) (by decide)) (fun r G9 hp9 => ?_)
      obtain ⟨rfl, f69, a69, rfl, hf69, hw69, p69, q69⟩ := hp9
      have q69 : a69 ≤ F 24 := q69
      have hw69 : eE (A 106) (F 24) 97 (f68, a68) = (f69, a69) := hw69
      refine R_s (f' := (15, [some (vR 88), some (vI 104), some (vI 101), some (vI 97)], [], LAY (u A 100 (wr (wr (wr (A 100) a 1) (a + 1) v56) (a + 2) v59)) (u (u (u F 27 v59) 26 f69) 25 a69), 0, 0)) hc129 0 rfl trivial ?_
      refine R_retv hc129 rfl rfl ?_
      refine R_s (f' := (135, [some (vR 88), some (vI a)], [], LAY (u A 100 (wr (wr (wr (A 100) a 1) (a + 1) v56) (a + 2) v59)) (u (u (u F 27 v59) 26 f69) 25 a69), 0, 0)) hc135 0 rfl trivial ?_
      refine R_s (P := True) (f' := (138, [some (vR 88), some (vI a)], [vI 100, vR 88], LAY (u A 100 (wr (wr (wr (A 100) a 1) (a + 1) v56) (a + 2) v59)) (u (u (u F 27 v59) 26 f69) 25 a69), 0, 0)) hc135 2 rfl trivial ?_
      refine R_cv hc135 rfl rfl (l_eats (A := (u A 100 (wr (wr (wr (A 100) a 1) (a + 1) v56) (a + 2) v59))) (F := (u (u (u F 27 v59) 26 f69) 25 a69)) h24 ⟨by (show 0 ≤ a69); omega, by (show a69 ≤ F 24); omega⟩ h106 (by show f69 = 0 ∨ f69 = 1; omega) (c := 100) (by decide)) (fun r G9 hp9 => ?_)
      obtain ⟨rfl, f70, a70, rfl, hf70, hw70, p70, q70⟩ := hp9
      have q70 : a70 ≤ F 24 := q70
      have hw70 : eE (A 106) (F 24) 100 (f69, a69) = (f70, a70) := hw70
      refine R_s (f' := (141, [some (vR 88), some (vI a)], [], LAY (u A 100 (wr (wr (wr (A 100) a 1) (a + 1) v56) (a + 2) v59)) (u (u (u F 27 v59) 26 f70) 25 a70), 0, 0)) hc135 0 rfl trivial ?_
      refine R_s (P := True) (f' := (144, [some (vR 88), some (vI a)], [vI 115, vR 88], LAY (u A 100 (wr (wr (wr (A 100) a 1) (a + 1) v56) (a + 2) v59)) (u (u (u F 27 v59) 26 f70) 25 a70), 0, 0)) hc135 2 rfl trivial ?_
      refine R_cv hc135 rfl rfl (l_eats (A := (u A 100 (wr (wr (wr (A 100) a 1) (a + 1) v56) (a + 2) v59))) (F := (u (u (u F 27 v59) 26 f70) 25 a70)) h24 ⟨by (show 0 ≤ a70); omega, by (show a70 ≤ F 24); omega⟩ h106 (by show f70 = 0 ∨ f70 = 1; omega) (c := 115) (by decide)) (fun r G9 hp9 => ?_)
      obtain ⟨rfl, f71, a71, rfl, hf71, hw71, p71, q71⟩ := hp9
      have q71 : a71 ≤ F 24 := q71
      have hw71 : eE (A 106) (F 24) 115 (f70, a70) = (f71, a71) := hw71
      refine R_s (f' := (147, [some (vR 88), some (vI a)], [], LAY (u A 100 (wr (wr (wr (A 100) a 1) (a + 1) v56) (a + 2) v59)) (u (u (u F 27 v59) 26 f71) 25 a71), 0, 0)) hc135 0 rfl trivial ?_
      refine R_s (P := inI (a + 4) ∧ (0 ≤ a + 4 ∧ a + 4 < ((wr (wr (wr (A 100) a 1) (a + 1) v56) (a + 2) v59).length : Int)) ∧ True) (f' := (158, [some (vR 88), some (vI a)], [vI a, vR 88], LAY (u A 100 (wr (wr (wr (wr (A 100) a 1) (a + 1) v56) (a + 2) v59) (a + 4) 1)) (u (u (u F 27 v59) 26 f71) 25 a71), 0, 0)) hc135 9 rfl ⟨⟨by omega, by omega⟩, ⟨by omega, by simp only [wr_len]; omega⟩, trivial⟩ ?_
      refine R_cv hc135 rfl rfl (l_mtest (A := (u A 100 (wr (wr (wr (wr (A 100) a 1) (a + 1) v56) (a + 2) v59) (a + 4) 1))) (F := (u (u (u F 27 v59) 26 f71) 25 a71)) h24 ⟨by (show 0 ≤ a71); omega, by (show a71 ≤ F 24); omega⟩ h106 (by show (wr (wr (wr (wr (A 100) a 1) (a + 1) v56) (a + 2) v59) (a + 4) 1).length = 288; (try simp only [wr_len]); omega) ha (by show f71 = 0 ∨ f71 = 1; omega)) (fun r G9 hp9 => ?_)
      obtain ⟨rfl, m72, f72, a72, v72, rfl, lm72, hf72, p72, q72, km72, hw72, hv72⟩ := hp9
      have q72 : a72 ≤ F 24 := q72
      have km72 : ∀ q : Int, (0 ≤ q ∧ (q < a + 5 ∨ a + 7 < q)) → rd m72 q = rd (wr (wr (wr (wr (A 100) a 1) (a + 1) v56) (a + 2) v59) (a + 4) 1) q := fun q hq => km72 q hq.1 hq.2
      have hw72 : tS (A 106) (F 24) (f71, a71) = (f72, a72) := hw72
      have hv72 : f72 = 0 → rd m72 (a + 5) = tF (A 106) (F 24) (f71, a71) ∧ (tF (A 106) (F 24) (f71, a71) = -1 ∨ (rd m72 (a + 6) = tG (A 106) (F 24) (f71, a71) ∧ rd m72 (a + 7) = tH (A 106) (F 24) (f71, a71))) := hv72
      refine R_s (f' := (161, [some (vR 88), some (vI a)], [], LAY (u A 100 m72) (u (u (u F 26 f72) 25 a72) 27 v72), 0, 0)) hc135 0 rfl trivial ?_
      refine R_retv hc135 rfl rfl ⟨rfl, m72, f72, a72, v72, rfl, (by (try simp only [wr_len]); omega), (by omega), (by omega), (by omega), fun q hq hq9 => by rw [km72 q (by omega), rd_wr_n (by omega) (by omega) (by omega), rd_wr_n (by omega) (by omega) (by omega), rd_wr_n (by omega) (by omega) (by omega), rd_wr_n (by omega) (by omega) (by omega)], ?_⟩
      have eW : wD (A 106) (F 24) LINE (F 26, F 25) = (f55, a55) := by simp only [LINE, wD, hw51, hw52, hw53, hw54, hw55]
      have r0 : rd (m72) a = 1 := by rw [km72 _ (by omega), rd_wr_n (by omega) (by omega) (by omega), rd_wr_n (by omega) (by omega) (by omega), rd_wr_n (by omega) (by omega) (by omega), rd_wr_s (by omega) (by (try simp only [wr_len]); omega)]
      have eP : pN (A 106) (F 24) LINE (F 26, F 25) = ((f56, a56), v56) := by unfold pN; rw [eW, hw56]
      have eR : pR (A 106) (F 24) LINE (F 26, F 25) = ((f59, a59), v59) := by
        unfold pR
        rw [eP]
        (try dsimp only)
        simp only [PP, wD, hw57, hw58]
        exact hw59
      have eL : pL (A 106) (F 24) (F 26, F 25) = (f60, a60) := by
        unfold pL
        rw [eR]
        (try dsimp only)
        simp only [SPC, wD, hw60]
      have eT : tB (A 106) (F 24) i (F 26, F 25) = (f71, a71) := by
        rw [(eN_1 hk).2, eL]
        (try dsimp only)
        have eHd : wD (A 106) (F 24) HEADS (f60, a60) = (f71, a71) := by simp only [HEADS, wD, hw67, hw68, hw69, hw70, hw71]
        by_cases z : nx (A 106) (F 24) (a60) = 115
        · have z1 : f60 = 1 := by omega
          rw [if_pos z, ← eHd, z1, wD_f, wD_f]
        · rw [if_neg z, eHd]
      have eS : eN (A 106) (F 24) i (F 26, F 25) = (f72, a72) := by rw [(eN_1 hk).1, eT]; exact hw72
      refine ⟨eS, fun q0 => ?_⟩
      have r1 : rd (m72) (a + 1) = v56 := by rw [km72 _ (by omega), rd_wr_n (by omega) (by omega) (by omega), rd_wr_n (by omega) (by omega) (by omega), rd_wr_s (by omega) (by (try simp only [wr_len]); omega)]
      have r2 : rd (m72) (a + 2) = v59 := by rw [km72 _ (by omega), rd_wr_n (by omega) (by omega) (by omega), rd_wr_s (by omega) (by (try simp only [wr_len]); omega)]
      have r4 : rd (m72) (a + 4) = 1 := by rw [km72 _ (by omega), rd_wr_s (by omega) (by (try simp only [wr_len]); omega)]
      have hns : ¬ nx (A 106) (F 24) (a60) = 115 := fun z => by
        have z1 : f60 = 1 := by omega
        have z2 : wD (A 106) (F 24) HEADS (f60, a60) = (f71, a71) := by simp only [HEADS, wD, hw67, hw68, hw69, hw70, hw71]
        rw [z1, wD_f] at z2
        have z3 : f71 = 1 := (congrArg Prod.fst z2).symm
        have z4 := hw72
        rw [z3, tS_f] at z4
        have z5 : f72 = 1 := (congrArg Prod.fst z4).symm
        omega
      exact ⟨by rw [r0, hk], fun z => absurd (r0.symm.trans z) (by decide), fun _ => ⟨by rw [r1, eP], by rw [r2, eR], by rw [r4, eL]; (try dsimp only); rw [if_neg hns]⟩, fun z => absurd (r0.symm.trans z) (by decide), fun z => absurd (r0.symm.trans z) (by decide), fun _ => by
        rw [eT]
        have z := hv72 q0
        exact ⟨by rw [z.1], z.2.imp (fun w => by rw [z.1, w]; rfl) id⟩⟩
    · refine R_s (P := True) (f' := (104, [some (vR 88), some (vI a)], [vI 101, vI 116, vI 115, vR 88], LAY (u A 100 (wr (wr (wr (A 100) a 1) (a + 1) v56) (a + 2) v59)) (u (u (u F 27 v59) 26 f60) 25 a60), 0, 0)) hc135 4 rfl trivial ?_
      refine R_cv hc135 rfl rfl ?_ (fun r G h => h)
      refine R_s (P := True) (f' := (2, [some (vR 88), some (vI 115), some (vI 116), some (vI 101)], [vI 115, vR 88], LAY (u A 100 (wr (wr (wr (A 100) a 1) (a + 1) v56) (a + 2) v59)) (u (u (u F 27 v59) 26 f60) 25 a60), 0, 0)) hc129 2 rfl trivial ?_
      refine R_cv hc129 rfl rfl (l_eats (A := (u A 100 (wr (wr (wr (A 100) a 1) (a + 1) v56) (a + 2) v59))) (F := (u (u (u F 27 v59) 26 f60) 25 a60)) h24 ⟨by (show 0 ≤ a60); omega, by (show a60 ≤ F 24); omega⟩ h106 (by show f60 = 0 ∨ f60 = 1; omega) (c := 115) (by decide)) (fun r G9 hp9 => ?_)
      obtain ⟨rfl, f73, a73, rfl, hf73, hw73, p73, q73⟩ := hp9
      have q73 : a73 ≤ F 24 := q73
      have hw73 : eE (A 106) (F 24) 115 (f60, a60) = (f73, a73) := hw73
      refine R_s (f' := (5, [some (vR 88), some (vI 115), some (vI 116), some (vI 101)], [], LAY (u A 100 (wr (wr (wr (A 100) a 1) (a + 1) v56) (a + 2) v59)) (u (u (u F 27 v59) 26 f73) 25 a73), 0, 0)) hc129 0 rfl trivial ?_
      refine R_s (P := True) (f' := (7, [some (vR 88), some (vI 115), some (vI 116), some (vI 101)], [vI 116, vR 88], LAY (u A 100 (wr (wr (wr (A 100) a 1) (a + 1) v56) (a + 2) v59)) (u (u (u F 27 v59) 26 f73) 25 a73), 0, 0)) hc129 2 rfl trivial ?_
      refine R_cv hc129 rfl rfl (l_eats (A := (u A 100 (wr (wr (wr (A 100) a 1) (a + 1) v56) (a + 2) v59))) (F := (u (u (u F 27 v59) 26 f73) 25 a73)) h24 ⟨by (show 0 ≤ a73); omega, by (show a73 ≤ F 24); omega⟩ h106 (by show f73 = 0 ∨ f73 = 1; omega) (c := 116) (by decide)) (fun r G9 hp9 => ?_)
      obtain ⟨rfl, f74, a74, rfl, hf74, hw74, p74, q74⟩ := hp9
      have q74 : a74 ≤ F 24 := q74
      have hw74 : eE (A 106) (F 24) 116 (f73, a73) = (f74, a74) := hw74
      refine R_s (f' := (10, [some (vR 88), some (vI 115), some (vI 116), some (vI 101)], [], LAY (u A 100 (wr (wr (wr (A 100) a 1) (a + 1) v56) (a + 2) v59)) (u (u (u F 27 v59) 26 f74) 25 a74), 0, 0)) hc129 0 rfl trivial ?_
      refine R_s (P := True) (f' := (12, [some (vR 88), some (vI 115), some (vI 116), some (vI 101)], [vI 101, vR 88], LAY (u A 100 (wr (wr (wr (A 100) a 1) (a + 1) v56) (a + 2) v59)) (u (u (u F 27 v59) 26 f74) 25 a74), 0, 0)) hc129 2 rfl trivial ?_
      refine R_cv hc129 rfl rfl (l_eats (A := (u A 100 (wr (wr (wr (A 100) a 1) (a + 1) v56) (a + 2) v59))) (F := (u (u (u F 27 v59) 26 f74) 25 a74)) h24 ⟨by (show 0 ≤ a74); omega, by (show a74 ≤ F 24); omega⟩ h106 (by show f74 = 0 ∨ f74 = 1; omega) (c := 101) (by decide)) (fun r G9 hp9 => ?_)
      obtain ⟨rfl, f75, a75, rfl, hf75, hw75, p75, q75⟩ := hp9
      have q75 : a75 ≤ F 24 := q75
      have hw75 : eE (A 106) (F 24) 101 (f74, a74) = (f75, a75) := hw75
      refine R_s (f' := (15, [some (vR 88), some (vI 115), some (vI 116), some (vI 101)], [], LAY (u A 100 (wr (wr (wr (A 100) a 1) (a + 1) v56) (a + 2) v59)) (u (u (u F 27 v59) 26 f75) 25 a75), 0, 0)) hc129 0 rfl trivial ?_
      refine R_retv hc129 rfl rfl ?_
      refine R_s (f' := (107, [some (vR 88), some (vI a)], [], LAY (u A 100 (wr (wr (wr (A 100) a 1) (a + 1) v56) (a + 2) v59)) (u (u (u F 27 v59) 26 f75) 25 a75), 0, 0)) hc135 0 rfl trivial ?_
      refine R_s (P := True) (f' := (110, [some (vR 88), some (vI a)], [vI 109, vR 88], LAY (u A 100 (wr (wr (wr (A 100) a 1) (a + 1) v56) (a + 2) v59)) (u (u (u F 27 v59) 26 f75) 25 a75), 0, 0)) hc135 2 rfl trivial ?_
      refine R_cv hc135 rfl rfl (l_eats (A := (u A 100 (wr (wr (wr (A 100) a 1) (a + 1) v56) (a + 2) v59))) (F := (u (u (u F 27 v59) 26 f75) 25 a75)) h24 ⟨by (show 0 ≤ a75); omega, by (show a75 ≤ F 24); omega⟩ h106 (by show f75 = 0 ∨ f75 = 1; omega) (c := 109) (by decide)) (fun r G9 hp9 => ?_)
      obtain ⟨rfl, f76, a76, rfl, hf76, hw76, p76, q76⟩ := hp9
      have q76 : a76 ≤ F 24 := q76
      have hw76 : eE (A 106) (F 24) 109 (f75, a75) = (f76, a76) := hw76
      refine R_s (f' := (113, [some (vR 88), some (vI a)], [], LAY (u A 100 (wr (wr (wr (A 100) a 1) (a + 1) v56) (a + 2) v59)) (u (u (u F 27 v59) 26 f76) 25 a76), 0, 0)) hc135 0 rfl trivial ?_
      refine R_s (P := inI (a + 4) ∧ (0 ≤ a + 4 ∧ a + 4 < ((wr (wr (wr (A 100) a 1) (a + 1) v56) (a + 2) v59).length : Int)) ∧ True) (f' := (158, [some (vR 88), some (vI a)], [vI a, vR 88], LAY (u A 100 (wr (wr (wr (wr (A 100) a 1) (a + 1) v56) (a + 2) v59) (a + 4) 0)) (u (u (u F 27 v59) 26 f76) 25 a76), 0, 0)) hc135 10 rfl ⟨⟨by omega, by omega⟩, ⟨by omega, by simp only [wr_len]; omega⟩, trivial⟩ ?_
      refine R_cv hc135 rfl rfl (l_mtest (A := (u A 100 (wr (wr (wr (wr (A 100) a 1) (a + 1) v56) (a + 2) v59) (a + 4) 0))) (F := (u (u (u F 27 v59) 26 f76) 25 a76)) h24 ⟨by (show 0 ≤ a76); omega, by (show a76 ≤ F 24); omega⟩ h106 (by show (wr (wr (wr (wr (A 100) a 1) (a + 1) v56) (a + 2) v59) (a + 4) 0).length = 288; (try simp only [wr_len]); omega) ha (by show f76 = 0 ∨ f76 = 1; omega)) (fun r G9 hp9 => ?_)
      obtain ⟨rfl, m77, f77, a77, v77, rfl, lm77, hf77, p77, q77, km77, hw77, hv77⟩ := hp9
      have q77 : a77 ≤ F 24 := q77
      have km77 : ∀ q : Int, (0 ≤ q ∧ (q < a + 5 ∨ a + 7 < q)) → rd m77 q = rd (wr (wr (wr (wr (A 100) a 1) (a + 1) v56) (a + 2) v59) (a + 4) 0) q := fun q hq => km77 q hq.1 hq.2
      have hw77 : tS (A 106) (F 24) (f76, a76) = (f77, a77) := hw77
      have hv77 : f77 = 0 → rd m77 (a + 5) = tF (A 106) (F 24) (f76, a76) ∧ (tF (A 106) (F 24) (f76, a76) = -1 ∨ (rd m77 (a + 6) = tG (A 106) (F 24) (f76, a76) ∧ rd m77 (a + 7) = tH (A 106) (F 24) (f76, a76))) := hv77
      refine R_s (f' := (161, [some (vR 88), some (vI a)], [], LAY (u A 100 m77) (u (u (u F 26 f77) 25 a77) 27 v77), 0, 0)) hc135 0 rfl trivial ?_
      refine R_retv hc135 rfl rfl ⟨rfl, m77, f77, a77, v77, rfl, (by (try simp only [wr_len]); omega), (by omega), (by omega), (by omega), fun q hq hq9 => by rw [km77 q (by omega), rd_wr_n (by omega) (by omega) (by omega), rd_wr_n (by omega) (by omega) (by omega), rd_wr_n (by omega) (by omega) (by omega), rd_wr_n (by omega) (by omega) (by omega)], ?_⟩
      have eW : wD (A 106) (F 24) LINE (F 26, F 25) = (f55, a55) := by simp only [LINE, wD, hw51, hw52, hw53, hw54, hw55]
      have r0 : rd (m77) a = 1 := by rw [km77 _ (by omega), rd_wr_n (by omega) (by omega) (by omega), rd_wr_n (by omega) (by omega) (by omega), rd_wr_n (by omega) (by omega) (by omega), rd_wr_s (by omega) (by (try simp only [wr_len]); omega)]
      have eP : pN (A 106) (F 24) LINE (F 26, F 25) = ((f56, a56), v56) := by unfold pN; rw [eW, hw56]
      have eR : pR (A 106) (F 24) LINE (F 26, F 25) = ((f59, a59), v59) := by
        unfold pR
        rw [eP]
        (try dsimp only)
        simp only [PP, wD, hw57, hw58]
        exact hw59
      have eL : pL (A 106) (F 24) (F 26, F 25) = (f60, a60) := by
        unfold pL
        rw [eR]
        (try dsimp only)
        simp only [SPC, wD, hw60]
      have eT : tB (A 106) (F 24) i (F 26, F 25) = (f76, a76) := by
        rw [(eN_1 hk).2, eL]
        (try dsimp only)
        rw [if_pos (by omega)]
        simp only [STEM, wD, hw73, hw74, hw75, hw76]
      have eS : eN (A 106) (F 24) i (F 26, F 25) = (f77, a77) := by rw [(eN_1 hk).1, eT]; exact hw77
      refine ⟨eS, fun q0 => ?_⟩
      have r1 : rd (m77) (a + 1) = v56 := by rw [km77 _ (by omega), rd_wr_n (by omega) (by omega) (by omega), rd_wr_n (by omega) (by omega) (by omega), rd_wr_s (by omega) (by (try simp only [wr_len]); omega)]
      have r2 : rd (m77) (a + 2) = v59 := by rw [km77 _ (by omega), rd_wr_n (by omega) (by omega) (by omega), rd_wr_s (by omega) (by (try simp only [wr_len]); omega)]
      have r4 : rd (m77) (a + 4) = 0 := by rw [km77 _ (by omega), rd_wr_s (by omega) (by (try simp only [wr_len]); omega)]
      exact ⟨by rw [r0, hk], fun z => absurd (r0.symm.trans z) (by decide), fun _ => ⟨by rw [r1, eP], by rw [r2, eR], by rw [r4, eL]; (try dsimp only); rw [if_pos (by omega)]⟩, fun z => absurd (r0.symm.trans z) (by decide), fun z => absurd (r0.symm.trans z) (by decide), fun _ => by
        rw [eT]
        have z := hv77 q0
        exact ⟨by rw [z.1], z.2.imp (fun w => by rw [z.1, w]; rfl) id⟩⟩

theorem l_mman {A : Nat → List Int} {F : Nat → Int} (h24 : 0 ≤ F 24 ∧ F 24 ≤ 120) (h25 : 0 ≤ F 25 ∧ F 25 ≤ F 24) (h106 : (A 106).length = 120) (h100 : (A 100).length = 288) {a : Int} (ha : 0 ≤ a ∧ a + 8 ≤ 288) (h26 : F 26 = 0) {i : Nat} (hk : eK (A 106) (F 24) i (F 26, F 25) = 2) : R 136 (0, L0 136 [vR 88, vI a], [], LAY A F, 0, 0) (fun r G => r = none ∧ ∃ (l : List Int) (f at1 v : Int), G = LAY (u A 100 l) (u (u (u F 26 f) 25 at1) 27 v) ∧ l.length = 288 ∧ (f = 0 ∨ f = 1) ∧ 0 ≤ at1 ∧ at1 ≤ F 24 ∧ (∀ q : Int, 0 ≤ q → (q < a + 0 ∨ a + 7 < q) → rd l q = rd (A 100) q) ∧ eN (A 106) (F 24) i (F 26, F 25) = (f, at1) ∧ (f = 0 → eV (A 106) (F 24) i (F 26, F 25) (rd l a) (rd l (a + 1)) (rd l (a + 2)) (rd l (a + 3)) (rd l (a + 4)) (rd l (a + 5) + 1) (rd l (a + 6)) (rd l (a + 7)))) := by
  refine R_s (P := True) (f' := (0, [some (vR 88), some (vI a)], [], LAY (u A 100 (A 100)) (u (u (u F 26 (F 26)) 25 (F 25)) 27 (F 27)), 0, 0)) hc136 0 rfl trivial ?_
  refine R_s (P := (0 ≤ a ∧ a < ((A 100).length : Int)) ∧ True) (f' := (14, [some (vR 88), some (vI a)], [vI 110, vI 97, vI 109, vR 88], LAY (u A 100 (wr (A 100) a 2)) (u (u (u F 26 (F 26)) 25 (F 25)) 27 (F 27)), 0, 0)) hc136 9 rfl ⟨⟨by omega, by omega⟩, trivial⟩ ?_
  refine R_cv hc136 rfl rfl ?_ (fun r G h => h)
  refine R_s (P := True) (f' := (2, [some (vR 88), some (vI 109), some (vI 97), some (vI 110)], [vI 109, vR 88], LAY (u A 100 (wr (A 100) a 2)) (u (u (u F 26 (F 26)) 25 (F 25)) 27 (F 27)), 0, 0)) hc129 2 rfl trivial ?_
  refine R_cv hc129 rfl rfl (l_eats (A := (u A 100 (wr (A 100) a 2))) (F := (u (u (u F 26 (F 26)) 25 (F 25)) 27 (F 27))) h24 ⟨by (show 0 ≤ F 25); omega, by (show F 25 ≤ F 24); omega⟩ h106 (by show F 26 = 0 ∨ F 26 = 1; omega) (c := 109) (by decide)) (fun r G9 hp9 => ?_)
  obtain ⟨rfl, f78, a78, rfl, hf78, hw78, p78, q78⟩ := hp9
  have q78 : a78 ≤ F 24 := q78
  have hw78 : eE (A 106) (F 24) 109 (F 26, F 25) = (f78, a78) := hw78
  refine R_s (f' := (5, [some (vR 88), some (vI 109), some (vI 97), some (vI 110)], [], LAY (u A 100 (wr (A 100) a 2)) (u (u (u F 27 (F 27)) 26 f78) 25 a78), 0, 0)) hc129 0 rfl trivial ?_
  refine R_s (P := True) (f' := (7, [some (vR 88), some (vI 109), some (vI 97), some (vI 110)], [vI 97, vR 88], LAY (u A 100 (wr (A 100) a 2)) (u (u (u F 27 (F 27)) 26 f78) 25 a78), 0, 0)) hc129 2 rfl trivial ?_
  refine R_cv hc129 rfl rfl (l_eats (A := (u A 100 (wr (A 100) a 2))) (F := (u (u (u F 27 (F 27)) 26 f78) 25 a78)) h24 ⟨by (show 0 ≤ a78); omega, by (show a78 ≤ F 24); omega⟩ h106 (by show f78 = 0 ∨ f78 = 1; omega) (c := 97) (by decide)) (fun r G9 hp9 => ?_)
  obtain ⟨rfl, f79, a79, rfl, hf79, hw79, p79, q79⟩ := hp9
  have q79 : a79 ≤ F 24 := q79
  have hw79 : eE (A 106) (F 24) 97 (f78, a78) = (f79, a79) := hw79
  refine R_s (f' := (10, [some (vR 88), some (vI 109), some (vI 97), some (vI 110)], [], LAY (u A 100 (wr (A 100) a 2)) (u (u (u F 27 (F 27)) 26 f79) 25 a79), 0, 0)) hc129 0 rfl trivial ?_
  refine R_s (P := True) (f' := (12, [some (vR 88), some (vI 109), some (vI 97), some (vI 110)], [vI 110, vR 88], LAY (u A 100 (wr (A 100) a 2)) (u (u (u F 27 (F 27)) 26 f79) 25 a79), 0, 0)) hc129 2 rfl trivial ?_
  refine R_cv hc129 rfl rfl (l_eats (A := (u A 100 (wr (A 100) a 2))) (F := (u (u (u F 27 (F 27)) 26 f79) 25 a79)) h24 ⟨by (show 0 ≤ a79); omega, by (show a79 ≤ F 24); omega⟩ h106 (by show f79 = 0 ∨ f79 = 1; omega) (c := 110) (by decide)) (fun r G9 hp9 => ?_)
  obtain ⟨rfl, f80, a80, rfl, hf80, hw80, p80, q80⟩ := hp9
  have q80 : a80 ≤ F 24 := q80
  have hw80 : eE (A 106) (F 24) 110 (f79, a79) = (f80, a80) := hw80
  refine R_s (f' := (15, [some (vR 88), some (vI 109), some (vI 97), some (vI 110)], [], LAY (u A 100 (wr (A 100) a 2)) (u (u (u F 27 (F 27)) 26 f80) 25 a80), 0, 0)) hc129 0 rfl trivial ?_
  refine R_retv hc129 rfl rfl ?_
  refine R_s (f' := (17, [some (vR 88), some (vI a)], [], LAY (u A 100 (wr (A 100) a 2)) (u (u (u F 27 (F 27)) 26 f80) 25 a80), 0, 0)) hc136 0 rfl trivial ?_
  refine R_s (P := True) (f' := (20, [some (vR 88), some (vI a)], [vI 32, vR 88], LAY (u A 100 (wr (A 100) a 2)) (u (u (u F 27 (F 27)) 26 f80) 25 a80), 0, 0)) hc136 2 rfl trivial ?_
  refine R_cv hc136 rfl rfl (l_eats (A := (u A 100 (wr (A 100) a 2))) (F := (u (u (u F 27 (F 27)) 26 f80) 25 a80)) h24 ⟨by (show 0 ≤ a80); omega, by (show a80 ≤ F 24); omega⟩ h106 (by show f80 = 0 ∨ f80 = 1; omega) (c := 32) (by decide)) (fun r G9 hp9 => ?_)
  obtain ⟨rfl, f81, a81, rfl, hf81, hw81, p81, q81⟩ := hp9
  have q81 : a81 ≤ F 24 := q81
  have hw81 : eE (A 106) (F 24) 32 (f80, a80) = (f81, a81) := hw81
  refine R_s (f' := (23, [some (vR 88), some (vI a)], [], LAY (u A 100 (wr (A 100) a 2)) (u (u (u F 27 (F 27)) 26 f81) 25 a81), 0, 0)) hc136 0 rfl trivial ?_
  refine R_s (P := True) (f' := (25, [some (vR 88), some (vI a)], [vI 4, vR 88], LAY (u A 100 (wr (A 100) a 2)) (u (u (u F 27 (F 27)) 26 f81) 25 a81), 0, 0)) hc136 2 rfl trivial ?_
  refine R_cv hc136 rfl rfl (l_digs (A := (u A 100 (wr (A 100) a 2))) (F := (u (u (u F 27 (F 27)) 26 f81) 25 a81)) h24 ⟨by (show 0 ≤ a81); omega, by (show a81 ≤ F 24); omega⟩ h106 (by show f81 = 0 ∨ f81 = 1; omega) (kk := 4) (by decide) rfl) (fun r G9 hp9 => ?_)
  obtain ⟨rfl, f82, a82, v82, rfl, hf82, hw82, p82, q82, w82⟩ := hp9
  have q82 : a82 ≤ F 24 := q82
  have hw82 : dG (A 106) (F 24) 4 (f81, a81) = ((f82, a82), v82) := hw82
  refine R_s (f' := (28, [some (vR 88), some (vI a)], [], LAY (u A 100 (wr (A 100) a 2)) (u (u (u F 26 f82) 25 a82) 27 v82), 0, 0)) hc136 0 rfl trivial ?_
  refine R_s (P := inI (a + 1) ∧ (0 ≤ a + 1 ∧ a + 1 < ((wr (A 100) a 2).length : Int)) ∧ True) (f' := (43, [some (vR 88), some (vI a)], [vI 32, vR 88], LAY (u A 100 (wr (wr (A 100) a 2) (a + 1) v82)) (u (u (u F 26 f82) 25 a82) 27 v82), 0, 0)) hc136 10 rfl ⟨⟨by omega, by omega⟩, ⟨by omega, by simp only [wr_len]; omega⟩, trivial⟩ ?_
  refine R_cv hc136 rfl rfl (l_eats (A := (u A 100 (wr (wr (A 100) a 2) (a + 1) v82))) (F := (u (u (u F 26 f82) 25 a82) 27 v82)) h24 ⟨by (show 0 ≤ a82); omega, by (show a82 ≤ F 24); omega⟩ h106 (by show f82 = 0 ∨ f82 = 1; omega) (c := 32) (by decide)) (fun r G9 hp9 => ?_)
  obtain ⟨rfl, f83, a83, rfl, hf83, hw83, p83, q83⟩ := hp9
  have q83 : a83 ≤ F 24 := q83
  have hw83 : eE (A 106) (F 24) 32 (f82, a82) = (f83, a83) := hw83
  refine R_s (f' := (46, [some (vR 88), some (vI a)], [], LAY (u A 100 (wr (wr (A 100) a 2) (a + 1) v82)) (u (u (u F 27 v82) 26 f83) 25 a83), 0, 0)) hc136 0 rfl trivial ?_
  refine R_s (P := True) (f' := (49, [some (vR 88), some (vI a)], [vI 112, vR 88], LAY (u A 100 (wr (wr (A 100) a 2) (a + 1) v82)) (u (u (u F 27 v82) 26 f83) 25 a83), 0, 0)) hc136 2 rfl trivial ?_
  refine R_cv hc136 rfl rfl (l_eats (A := (u A 100 (wr (wr (A 100) a 2) (a + 1) v82))) (F := (u (u (u F 27 v82) 26 f83) 25 a83)) h24 ⟨by (show 0 ≤ a83); omega, by (show a83 ≤ F 24); omega⟩ h106 (by show f83 = 0 ∨ f83 = 1; omega) (c := 112) (by decide)) (fun r G9 hp9 => ?_)
  obtain ⟨rfl, f84, a84, rfl, hf84, hw84, p84, q84⟩ := hp9
  have q84 : a84 ≤ F 24 := q84
  have hw84 : eE (A 106) (F 24) 112 (f83, a83) = (f84, a84) := hw84
  refine R_s (f' := (52, [some (vR 88), some (vI a)], [], LAY (u A 100 (wr (wr (A 100) a 2) (a + 1) v82)) (u (u (u F 27 v82) 26 f84) 25 a84), 0, 0)) hc136 0 rfl trivial ?_
  refine R_s (P := True) (f' := (54, [some (vR 88), some (vI a)], [vI 2, vR 88], LAY (u A 100 (wr (wr (A 100) a 2) (a + 1) v82)) (u (u (u F 27 v82) 26 f84) 25 a84), 0, 0)) hc136 2 rfl trivial ?_
  refine R_cv hc136 rfl rfl (l_digs (A := (u A 100 (wr (wr (A 100) a 2) (a + 1) v82))) (F := (u (u (u F 27 v82) 26 f84) 25 a84)) h24 ⟨by (show 0 ≤ a84); omega, by (show a84 ≤ F 24); omega⟩ h106 (by show f84 = 0 ∨ f84 = 1; omega) (kk := 2) (by decide) rfl) (fun r G9 hp9 => ?_)
  obtain ⟨rfl, f85, a85, v85, rfl, hf85, hw85, p85, q85, w85⟩ := hp9
  have q85 : a85 ≤ F 24 := q85
  have hw85 : dG (A 106) (F 24) 2 (f84, a84) = ((f85, a85), v85) := hw85
  refine R_s (f' := (57, [some (vR 88), some (vI a)], [], LAY (u A 100 (wr (wr (A 100) a 2) (a + 1) v82)) (u (u (u F 26 f85) 25 a85) 27 v85), 0, 0)) hc136 0 rfl trivial ?_
  refine R_s (P := inI (a + 2) ∧ (0 ≤ a + 2 ∧ a + 2 < ((wr (wr (A 100) a 2) (a + 1) v82).length : Int)) ∧ True) (f' := (71, [some (vR 88), some (vI a)], [vI a, vR 88], LAY (u A 100 (wr (wr (wr (A 100) a 2) (a + 1) v82) (a + 2) v85)) (u (u (u F 26 f85) 25 a85) 27 v85), 0, 0)) hc136 10 rfl ⟨⟨by omega, by omega⟩, ⟨by omega, by simp only [wr_len]; omega⟩, trivial⟩ ?_
  refine R_cv hc136 rfl rfl (l_mtest (A := (u A 100 (wr (wr (wr (A 100) a 2) (a + 1) v82) (a + 2) v85))) (F := (u (u (u F 26 f85) 25 a85) 27 v85)) h24 ⟨by (show 0 ≤ a85); omega, by (show a85 ≤ F 24); omega⟩ h106 (by show (wr (wr (wr (A 100) a 2) (a + 1) v82) (a + 2) v85).length = 288; (try simp only [wr_len]); omega) ha (by show f85 = 0 ∨ f85 = 1; omega)) (fun r G9 hp9 => ?_)
  obtain ⟨rfl, m86, f86, a86, v86, rfl, lm86, hf86, p86, q86, km86, hw86, hv86⟩ := hp9
  have q86 : a86 ≤ F 24 := q86
  have km86 : ∀ q : Int, (0 ≤ q ∧ (q < a + 5 ∨ a + 7 < q)) → rd m86 q = rd (wr (wr (wr (A 100) a 2) (a + 1) v82) (a + 2) v85) q := fun q hq => km86 q hq.1 hq.2
  have hw86 : tS (A 106) (F 24) (f85, a85) = (f86, a86) := hw86
  have hv86 : f86 = 0 → rd m86 (a + 5) = tF (A 106) (F 24) (f85, a85) ∧ (tF (A 106) (F 24) (f85, a85) = -1 ∨ (rd m86 (a + 6) = tG (A 106) (F 24) (f85, a85) ∧ rd m86 (a + 7) = tH (A 106) (F 24) (f85, a85))) := hv86
  refine R_s (f' := (74, [some (vR 88), some (vI a)], [], LAY (u A 100 m86) (u (u (u F 26 f86) 25 a86) 27 v86), 0, 0)) hc136 0 rfl trivial ?_
  refine R_retv hc136 rfl rfl ⟨rfl, m86, f86, a86, v86, rfl, (by (try simp only [wr_len]); omega), (by omega), (by omega), (by omega), fun q hq hq9 => by rw [km86 q (by omega), rd_wr_n (by omega) (by omega) (by omega), rd_wr_n (by omega) (by omega) (by omega), rd_wr_n (by omega) (by omega) (by omega)], ?_⟩
  have eW : wD (A 106) (F 24) MAN (F 26, F 25) = (f81, a81) := by simp only [MAN, wD, hw78, hw79, hw80, hw81]
  have r0 : rd (m86) a = 2 := by rw [km86 _ (by omega), rd_wr_n (by omega) (by omega) (by omega), rd_wr_n (by omega) (by omega) (by omega), rd_wr_s (by omega) (by (try simp only [wr_len]); omega)]
  have eP : pN (A 106) (F 24) MAN (F 26, F 25) = ((f82, a82), v82) := by unfold pN; rw [eW, hw82]
  have eR : pR (A 106) (F 24) MAN (F 26, F 25) = ((f85, a85), v85) := by
    unfold pR
    rw [eP]
    (try dsimp only)
    simp only [PP, wD, hw83, hw84]
    exact hw85
  have eT : tB (A 106) (F 24) i (F 26, F 25) = (f85, a85) := by rw [(eN_2 hk).2, eR]
  have eS : eN (A 106) (F 24) i (F 26, F 25) = (f86, a86) := by rw [(eN_2 hk).1, eT]; exact hw86
  refine ⟨eS, fun q0 => ?_⟩
  have r1 : rd (m86) (a + 1) = v82 := by rw [km86 _ (by omega), rd_wr_n (by omega) (by omega) (by omega), rd_wr_s (by omega) (by (try simp only [wr_len]); omega)]
  have r2 : rd (m86) (a + 2) = v85 := by rw [km86 _ (by omega), rd_wr_s (by omega) (by (try simp only [wr_len]); omega)]
  exact ⟨by rw [r0, hk], fun z => absurd (r0.symm.trans z) (by decide), fun z => absurd (r0.symm.trans z) (by decide), fun _ => ⟨by rw [r1, eP], by rw [r2, eR]⟩, fun z => absurd (r0.symm.trans z) (by decide), fun _ => by
    rw [eT]
    have z := hv86 q0
    exact ⟨by rw [z.1], z.2.imp (fun w => by rw [z.1, w]; rfl) id⟩⟩

theorem l_mrest {A : Nat → List Int} {F : Nat → Int} (h24 : 0 ≤ F 24 ∧ F 24 ≤ 120) (h25 : 0 ≤ F 25 ∧ F 25 ≤ F 24) (h106 : (A 106).length = 120) (h100 : (A 100).length = 288) {a : Int} (ha : 0 ≤ a ∧ a + 8 ≤ 288) (h26 : F 26 = 0) {i : Nat} (hk : eK (A 106) (F 24) i (F 26, F 25) = 3) : R 137 (0, L0 137 [vR 88, vI a], [], LAY A F, 0, 0) (fun r G => r = none ∧ ∃ (l : List Int) (f at1 v : Int), G = LAY (u A 100 l) (u (u (u F 26 f) 25 at1) 27 v) ∧ l.length = 288 ∧ (f = 0 ∨ f = 1) ∧ 0 ≤ at1 ∧ at1 ≤ F 24 ∧ (∀ q : Int, 0 ≤ q → (q < a + 0 ∨ a + 7 < q) → rd l q = rd (A 100) q) ∧ eN (A 106) (F 24) i (F 26, F 25) = (f, at1) ∧ (f = 0 → eV (A 106) (F 24) i (F 26, F 25) (rd l a) (rd l (a + 1)) (rd l (a + 2)) (rd l (a + 3)) (rd l (a + 4)) (rd l (a + 5) + 1) (rd l (a + 6)) (rd l (a + 7)))) := by
  refine R_s (P := True) (f' := (0, [some (vR 88), some (vI a)], [], LAY (u A 100 (A 100)) (u (u (u F 26 (F 26)) 25 (F 25)) 27 (F 27)), 0, 0)) hc137 0 rfl trivial ?_
  refine R_s (P := (0 ≤ a ∧ a < ((A 100).length : Int)) ∧ True) (f' := (14, [some (vR 88), some (vI a)], [vI 115, vI 101, vI 114, vR 88], LAY (u A 100 (wr (A 100) a 3)) (u (u (u F 26 (F 26)) 25 (F 25)) 27 (F 27)), 0, 0)) hc137 9 rfl ⟨⟨by omega, by omega⟩, trivial⟩ ?_
  refine R_cv hc137 rfl rfl ?_ (fun r G h => h)
  refine R_s (P := True) (f' := (2, [some (vR 88), some (vI 114), some (vI 101), some (vI 115)], [vI 114, vR 88], LAY (u A 100 (wr (A 100) a 3)) (u (u (u F 26 (F 26)) 25 (F 25)) 27 (F 27)), 0, 0)) hc129 2 rfl trivial ?_
  refine R_cv hc129 rfl rfl (l_eats (A := (u A 100 (wr (A 100) a 3))) (F := (u (u (u F 26 (F 26)) 25 (F 25)) 27 (F 27))) h24 ⟨by (show 0 ≤ F 25); omega, by (show F 25 ≤ F 24); omega⟩ h106 (by show F 26 = 0 ∨ F 26 = 1; omega) (c := 114) (by decide)) (fun r G9 hp9 => ?_)
  obtain ⟨rfl, f87, a87, rfl, hf87, hw87, p87, q87⟩ := hp9
  have q87 : a87 ≤ F 24 := q87
  have hw87 : eE (A 106) (F 24) 114 (F 26, F 25) = (f87, a87) := hw87
  refine R_s (f' := (5, [some (vR 88), some (vI 114), some (vI 101), some (vI 115)], [], LAY (u A 100 (wr (A 100) a 3)) (u (u (u F 27 (F 27)) 26 f87) 25 a87), 0, 0)) hc129 0 rfl trivial ?_
  refine R_s (P := True) (f' := (7, [some (vR 88), some (vI 114), some (vI 101), some (vI 115)], [vI 101, vR 88], LAY (u A 100 (wr (A 100) a 3)) (u (u (u F 27 (F 27)) 26 f87) 25 a87), 0, 0)) hc129 2 rfl trivial ?_
  refine R_cv hc129 rfl rfl (l_eats (A := (u A 100 (wr (A 100) a 3))) (F := (u (u (u F 27 (F 27)) 26 f87) 25 a87)) h24 ⟨by (show 0 ≤ a87); omega, by (show a87 ≤ F 24); omega⟩ h106 (by show f87 = 0 ∨ f87 = 1; omega) (c := 101) (by decide)) (fun r G9 hp9 => ?_)
  obtain ⟨rfl, f88, a88, rfl, hf88, hw88, p88, q88⟩ := hp9
  have q88 : a88 ≤ F 24 := q88
  have hw88 : eE (A 106) (F 24) 101 (f87, a87) = (f88, a88) := hw88
  refine R_s (f' := (10, [some (vR 88), some (vI 114), some (vI 101), some (vI 115)], [], LAY (u A 100 (wr (A 100) a 3)) (u (u (u F 27 (F 27)) 26 f88) 25 a88), 0, 0)) hc129 0 rfl trivial ?_
  refine R_s (P := True) (f' := (12, [some (vR 88), some (vI 114), some (vI 101), some (vI 115)], [vI 115, vR 88], LAY (u A 100 (wr (A 100) a 3)) (u (u (u F 27 (F 27)) 26 f88) 25 a88), 0, 0)) hc129 2 rfl trivial ?_
  refine R_cv hc129 rfl rfl (l_eats (A := (u A 100 (wr (A 100) a 3))) (F := (u (u (u F 27 (F 27)) 26 f88) 25 a88)) h24 ⟨by (show 0 ≤ a88); omega, by (show a88 ≤ F 24); omega⟩ h106 (by show f88 = 0 ∨ f88 = 1; omega) (c := 115) (by decide)) (fun r G9 hp9 => ?_)
  obtain ⟨rfl, f89, a89, rfl, hf89, hw89, p89, q89⟩ := hp9
  have q89 : a89 ≤ F 24 := q89
  have hw89 : eE (A 106) (F 24) 115 (f88, a88) = (f89, a89) := hw89
  refine R_s (f' := (15, [some (vR 88), some (vI 114), some (vI 101), some (vI 115)], [], LAY (u A 100 (wr (A 100) a 3)) (u (u (u F 27 (F 27)) 26 f89) 25 a89), 0, 0)) hc129 0 rfl trivial ?_
  refine R_retv hc129 rfl rfl ?_
  refine R_s (f' := (17, [some (vR 88), some (vI a)], [], LAY (u A 100 (wr (A 100) a 3)) (u (u (u F 27 (F 27)) 26 f89) 25 a89), 0, 0)) hc137 0 rfl trivial ?_
  refine R_s (P := True) (f' := (20, [some (vR 88), some (vI a)], [vI 116, vR 88], LAY (u A 100 (wr (A 100) a 3)) (u (u (u F 27 (F 27)) 26 f89) 25 a89), 0, 0)) hc137 2 rfl trivial ?_
  refine R_cv hc137 rfl rfl (l_eats (A := (u A 100 (wr (A 100) a 3))) (F := (u (u (u F 27 (F 27)) 26 f89) 25 a89)) h24 ⟨by (show 0 ≤ a89); omega, by (show a89 ≤ F 24); omega⟩ h106 (by show f89 = 0 ∨ f89 = 1; omega) (c := 116) (by decide)) (fun r G9 hp9 => ?_)
  obtain ⟨rfl, f90, a90, rfl, hf90, hw90, p90, q90⟩ := hp9
  have q90 : a90 ≤ F 24 := q90
  have hw90 : eE (A 106) (F 24) 116 (f89, a89) = (f90, a90) := hw90
  refine R_s (f' := (23, [some (vR 88), some (vI a)], [], LAY (u A 100 (wr (A 100) a 3)) (u (u (u F 27 (F 27)) 26 f90) 25 a90), 0, 0)) hc137 0 rfl trivial ?_
  refine R_s (P := True) (f' := (26, [some (vR 88), some (vI a)], [vI 32, vR 88], LAY (u A 100 (wr (A 100) a 3)) (u (u (u F 27 (F 27)) 26 f90) 25 a90), 0, 0)) hc137 2 rfl trivial ?_
  refine R_cv hc137 rfl rfl (l_eats (A := (u A 100 (wr (A 100) a 3))) (F := (u (u (u F 27 (F 27)) 26 f90) 25 a90)) h24 ⟨by (show 0 ≤ a90); omega, by (show a90 ≤ F 24); omega⟩ h106 (by show f90 = 0 ∨ f90 = 1; omega) (c := 32) (by decide)) (fun r G9 hp9 => ?_)
  obtain ⟨rfl, f91, a91, rfl, hf91, hw91, p91, q91⟩ := hp9
  have q91 : a91 ≤ F 24 := q91
  have hw91 : eE (A 106) (F 24) 32 (f90, a90) = (f91, a91) := hw91
  refine R_s (f' := (29, [some (vR 88), some (vI a)], [], LAY (u A 100 (wr (A 100) a 3)) (u (u (u F 27 (F 27)) 26 f91) 25 a91), 0, 0)) hc137 0 rfl trivial ?_
  refine R_s (P := inI (a + 3) ∧ True) (f' := (37, [some (vR 88), some (vI a)], [vR 88, vI (a + 3), vR 100], LAY (u A 100 (wr (A 100) a 3)) (u (u (u F 27 (F 27)) 26 f91) 25 a91), 0, 0)) hc137 6 rfl ⟨⟨by omega, by omega⟩, trivial⟩ ?_
  refine R_cv hc137 rfl rfl (l_house (A := (u A 100 (wr (A 100) a 3))) (F := (u (u (u F 27 (F 27)) 26 f91) 25 a91)) h24 ⟨by (show 0 ≤ a91); omega, by (show a91 ≤ F 24); omega⟩ h106 (by show f91 = 0 ∨ f91 = 1; omega)) (fun r G9 hp9 => ?_)
  obtain ⟨f92, a92, h92, rfl, rfl, hf92, hw92, p92, q92, w92⟩ := hp9
  have q92 : a92 ≤ F 24 := q92
  have hw92 : hS (A 106) (F 24) (f91, a91) = ((f92, a92), h92) := hw92
  refine R_s (f' := (40, [some (vR 88), some (vI a)], [vI h92, vI (a + 3), vR 100], LAY (u A 100 (wr (A 100) a 3)) (u (u (u F 27 (F 27)) 26 f92) 25 a92), 0, 0)) hc137 0 rfl trivial ?_
  refine R_s (P := (0 ≤ a + 3 ∧ a + 3 < ((wr (A 100) a 3).length : Int)) ∧ inI (a + 5) ∧ (0 ≤ a + 5 ∧ a + 5 < ((wr (wr (A 100) a 3) (a + 3) h92).length : Int)) ∧ True) (f' := (50, [some (vR 88), some (vI a)], [], LAY (u A 100 (wr (wr (wr (A 100) a 3) (a + 3) h92) (a + 5) (-1))) (u (u (u F 27 (F 27)) 26 f92) 25 a92), 0, 0)) hc137 8 rfl ⟨⟨by omega, by simp only [wr_len]; omega⟩, ⟨by omega, by omega⟩, ⟨by omega, by simp only [wr_len]; omega⟩, trivial⟩ ?_
  refine R_retv hc137 rfl rfl ⟨rfl, wr (wr (wr (A 100) a 3) (a + 3) h92) (a + 5) (-1), f92, a92, F 27, rfl, (by (try simp only [wr_len]); omega), (by omega), (by omega), (by omega), fun q hq hq9 => by rw [rd_wr_n (by omega) (by omega) (by omega), rd_wr_n (by omega) (by omega) (by omega), rd_wr_n (by omega) (by omega) (by omega)], ?_⟩
  have eW : wD (A 106) (F 24) REST (F 26, F 25) = (f91, a91) := by simp only [REST, wD, hw87, hw88, hw89, hw90, hw91]
  have r0 : rd (wr (wr (wr (A 100) a 3) (a + 3) h92) (a + 5) (-1)) a = 3 := by rw [rd_wr_n (by omega) (by omega) (by omega), rd_wr_n (by omega) (by omega) (by omega), rd_wr_s (by omega) (by (try simp only [wr_len]); omega)]
  have eS : eN (A 106) (F 24) i (F 26, F 25) = (f92, a92) := by rw [eN_3 hk, eW, hw92]
  have r3 : rd (wr (wr (wr (A 100) a 3) (a + 3) h92) (a + 5) (-1)) (a + 3) = h92 := by rw [rd_wr_n (by omega) (by omega) (by omega), rd_wr_s (by omega) (by (try simp only [wr_len]); omega)]
  have r5 : rd (wr (wr (wr (A 100) a 3) (a + 3) h92) (a + 5) (-1)) (a + 5) = -1 := by rw [rd_wr_s (by omega) (by (try simp only [wr_len]); omega)]
  exact ⟨eS, fun _ => ⟨by rw [r0, hk], fun z => absurd (r0.symm.trans z) (by decide), fun z => absurd (r0.symm.trans z) (by decide), fun z => absurd (r0.symm.trans z) (by decide), fun _ => ⟨by rw [r3, eW, hw92], by rw [r5]; decide⟩, fun z => absurd r0 z⟩⟩

