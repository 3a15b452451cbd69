theorem l_reads {A : Nat → List Int} {F : Nat → Int} (h24 : 0 ≤ F 24 ∧ F 24 ≤ 120) (h106 : (A 106).length = 120) (h100 : (A 100).length = 288) (h21 : 0 ≤ F 21 ∧ F 21 ≤ 5) : R 138 (0, L0 138 [vR 88], [], LAY A F, 0, 0) (fun r G => ∃ (l : List Int) (f at1 e v : Int), r = some (vI e) ∧ G = LAY (u A 100 l) (u (u (u F 26 f) 25 at1) 27 v) ∧ l.length = 288 ∧ (∀ q : Int, 0 ≤ q → q < 48 * F 21 → rd l q = rd (A 100) q) ∧ (0 ≤ at1 ∧ at1 ≤ F 24) ∧ ((f = 1 ∧ fAIL (A 106) (F 24) at1) ∨ (f = 0 ∧ ∃ n : Nat, e = n ∧ sUCC (A 106) (F 24) n ∧ ∀ j : Nat, j < n → eV (A 106) (F 24) j (sT (A 106) (F 24) j) (rd l (48 * F 21 + 8 * j)) (rd l (48 * F 21 + 8 * j + 1)) (rd l (48 * F 21 + 8 * j + 2)) (rd l (48 * F 21 + 8 * j + 3)) (rd l (48 * F 21 + 8 * j + 4)) (rd l (48 * F 21 + 8 * j + 5) + 1) (rd l (48 * F 21 + 8 * j + 6)) (rd l (48 * F 21 + 8 * j + 7))))) := by
  have lp : ∀ (m i : Nat) (x : Int) (v3 : Option AV) (v4 : Option AV) (l : List Int) (f : Int) (pl : Int) (v : Int), x = (i : Int) → l.length = 288 → (f = 0 ∨ f = 1) → 0 ≤ pl ∧ pl ≤ F 24 → (∀ q : Int, 0 ≤ q → q < 48 * F 21 → rd l q = rd (A 100) q) → (f = 0 → sT (A 106) (F 24) i = (0, pl)) → (f = 0 → gO (A 106) (F 24) i) → (f = 1 → fAIL (A 106) (F 24) pl) → (f = 0 → ∀ j : Nat, j < i → eV (A 106) (F 24) j (sT (A 106) (F 24) j) (rd l (48 * F 21 + 8 * j)) (rd l (48 * F 21 + 8 * j + 1)) (rd l (48 * F 21 + 8 * j + 2)) (rd l (48 * F 21 + 8 * j + 3)) (rd l (48 * F 21 + 8 * j + 4)) (rd l (48 * F 21 + 8 * j + 5) + 1) (rd l (48 * F 21 + 8 * j + 6)) (rd l (48 * F 21 + 8 * j + 7))) → i ≤ 6 → 6 + 1 ≤ i + m → R 138 (14, [some (vR 88), some (vI x), some (vI 1), v3, v4], [], LAY (u A 100 l) (u (u (u F 26 f) 25 pl) 27 v), 0, 0) (fun r G => ∃ (l : List Int) (f at1 e v : Int), r = some (vI e) ∧ G = LAY (u A 100 l) (u (u (u F 26 f) 25 at1) 27 v) ∧ l.length = 288 ∧ (∀ q : Int, 0 ≤ q → q < 48 * F 21 → rd l q = rd (A 100) q) ∧ (0 ≤ at1 ∧ at1 ≤ F 24) ∧ ((f = 1 ∧ fAIL (A 106) (F 24) at1) ∨ (f = 0 ∧ ∃ n : Nat, e = n ∧ sUCC (A 106) (F 24) n ∧ ∀ j : Nat, j < n → eV (A 106) (F 24) j (sT (A 106) (F 24) j) (rd l (48 * F 21 + 8 * j)) (rd l (48 * F 21 + 8 * j + 1)) (rd l (48 * F 21 + 8 * j + 2)) (rd l (48 * F 21 + 8 * j + 3)) (rd l (48 * F 21 + 8 * j + 4)) (rd l (48 * F 21 + 8 * j + 5) + 1) (rd l (48 * F 21 + 8 * j + 6)) (rd l (48 * F 21 + 8 * j + 7))))) := by
    intro m
    induction m with
    | zero =>
      intro i x v3 v4 l f pl v ex hl hf hp hkp hs hg hF hvs hi hm
      exact absurd hm (by omega)
    | succ m ih =>
      intro i x v3 v4 l f pl v ex hl hf hp hkp hs hg hF hvs hi hm
      have hi5 : f = 0 → i ≤ 5 := fun q => by
        refine Classical.byContradiction (fun z => ?_)
        exact (hg q 5 (by omega)).2.1 eK_5
      refine R_s (P := True) (f' := (15, [some (vR 88), some (vI x), some (vI 1), v3, v4], [vI 1], LAY (u A 100 l) (u (u (u F 26 f) 25 pl) 27 v), 0, 0)) hc138 1 rfl trivial ?_
      refine R_if (t := 147) hc138 rfl rfl (fun (z : 1 = 0) => absurd z (by decide)) (fun (_ : ¬ (1 = 0)) => ?_)
      refine R_s (P := True) (f' := (22, [some (vR 88), some (vI x), some (vI 1), v3, v4], [vI f], LAY (u A 100 l) (u (u (u F 26 f) 25 pl) 27 v), 0, 0)) hc138 2 rfl trivial ?_
      refine R_if (t := 147) hc138 rfl rfl (fun (c2 : ¬ f = 0) => ?_) (fun (c2 : ¬ (¬ f = 0)) => ?_)
      · refine R_s (P := True) (f' := (151, [some (vR 88), some (vI x), some (vI 1), v3, v4], [vI f], LAY (u A 100 l) (u (u (u F 26 f) 25 pl) 27 v), 0, 0)) hc138 2 rfl trivial ?_
        refine R_if (t := 170) hc138 rfl rfl (fun (_ : ¬ f = 0) => ?_) (fun (z : ¬ (¬ f = 0)) => absurd (show ¬ f = 0 by omega) z)
        refine R_s (P := True) (f' := (171, [some (vR 88), some (vI x), some (vI 1), v3, v4], [vI x], LAY (u A 100 l) (u (u (u F 26 f) 25 pl) 27 v), 0, 0)) hc138 1 rfl trivial ?_
        exact R_reti hc138 rfl rfl ⟨l, f, pl, x, v, rfl, rfl, hl, hkp, hp, .inl ⟨by omega, hF (by omega)⟩⟩
      · have f0 : f = 0 := by omega
        refine R_s (P := inI (48 * (F 21)) ∧ inI (8 * x) ∧ inI ((48 * (F 21)) + (8 * x)) ∧ True) (f' := (39, [some (vR 88), some (vI x), some (vI 1), some (vI ((48 * (F 21)) + (8 * x))), v4], [vR 88], LAY (u A 100 l) (u (u (u F 26 f) 25 pl) 27 v), 0, 0)) hc138 10 rfl ⟨⟨by omega, by omega⟩, ⟨by omega, by omega⟩, ⟨by omega, by omega⟩, trivial⟩ ?_
        refine R_cv hc138 rfl rfl (l_here (A := (u A 100 l)) (F := (u (u (u F 26 f) 25 pl) 27 v)) h24 ⟨by (show 0 ≤ pl); omega, by (show pl ≤ F 24); omega⟩ h106) (fun r G9 hp9 => ?_)
        obtain ⟨e1, rfl⟩ := hp9
        have e2 : r = some (vI (nx (A 106) (F 24) (pl))) := e1
        clear e1
        subst e2
        refine R_s (f' := (42, [some (vR 88), some (vI x), some (vI 1), some (vI ((48 * (F 21)) + (8 * x))), v4], [vI (nx (A 106) (F 24) (pl))], LAY (u A 100 l) (u (u (u F 26 f) 25 pl) 27 v), 0, 0)) hc138 0 rfl trivial ?_
        refine R_s (P := True) (f' := (48, [some (vR 88), some (vI x), some (vI 1), some (vI ((48 * (F 21)) + (8 * x))), some (vI (nx (A 106) (F 24) (pl)))], [vI 114, vI (nx (A 106) (F 24) (pl))], LAY (u A 100 l) (u (u (u F 26 f) 25 pl) 27 v), 0, 0)) hc138 3 rfl trivial ?_
        refine R_ic (t := 61) hc138 rfl rfl (fun (c4 : ¬ nx (A 106) (F 24) (pl) = 114) => ?_) (fun (c4 : ¬ (¬ nx (A 106) (F 24) (pl) = 114)) => ?_)
        · refine R_s (P := True) (f' := (65, [some (vR 88), some (vI x), some (vI 1), some (vI ((48 * (F 21)) + (8 * x))), some (vI (nx (A 106) (F 24) (pl)))], [vI 102, vI (nx (A 106) (F 24) (pl))], LAY (u A 100 l) (u (u (u F 26 f) 25 pl) 27 v), 0, 0)) hc138 2 rfl trivial ?_
          refine R_ic (t := 81) hc138 rfl rfl (fun (c5 : ¬ nx (A 106) (F 24) (pl) = 102) => ?_) (fun (c5 : ¬ (¬ nx (A 106) (F 24) (pl) = 102)) => ?_)
          · refine R_s (P := True) (f' := (85, [some (vR 88), some (vI x), some (vI 1), some (vI ((48 * (F 21)) + (8 * x))), some (vI (nx (A 106) (F 24) (pl)))], [vI 108, vI (nx (A 106) (F 24) (pl))], LAY (u A 100 l) (u (u (u F 26 f) 25 pl) 27 v), 0, 0)) hc138 2 rfl trivial ?_
            refine R_ic (t := 101) hc138 rfl rfl (fun (c6 : ¬ nx (A 106) (F 24) (pl) = 108) => ?_) (fun (c6 : ¬ (¬ nx (A 106) (F 24) (pl) = 108)) => ?_)
            · refine R_s (P := True) (f' := (105, [some (vR 88), some (vI x), some (vI 1), some (vI ((48 * (F 21)) + (8 * x))), some (vI (nx (A 106) (F 24) (pl)))], [vI 109, vI (nx (A 106) (F 24) (pl))], LAY (u A 100 l) (u (u (u F 26 f) 25 pl) 27 v), 0, 0)) hc138 2 rfl trivial ?_
              refine R_ic (t := 120) hc138 rfl rfl (fun (c7 : ¬ nx (A 106) (F 24) (pl) = 109) => ?_) (fun (c7 : ¬ (¬ nx (A 106) (F 24) (pl) = 109)) => ?_)
              · refine R_s (P := (1 = 0 ∨ 1 = 1) ∧ inI (x + 1) ∧ True) (f' := (129, [some (vR 88), some (vI (x + 1)), some (vI 1), some (vI ((48 * (F 21)) + (8 * x))), some (vI (nx (A 106) (F 24) (pl)))], [vI 1], LAY (u A 100 l) (u (u (u F 25 pl) 27 v) 26 1), 0, 0)) hc138 5 rfl ⟨(by omega), ⟨by omega, by omega⟩, trivial⟩ ?_
                refine R_if (t := 144) hc138 rfl rfl (fun (z : 1 = 0) => absurd z (by decide)) (fun (_ : ¬ (1 = 0)) => ?_)
                refine R_s (P := True) (f' := (135, [some (vR 88), some (vI (x + 1)), some (vI 1), some (vI ((48 * (F 21)) + (8 * x))), some (vI (nx (A 106) (F 24) (pl)))], [vI 59, vR 88], LAY (u A 100 l) (u (u (u F 25 pl) 27 v) 26 1), 0, 0)) hc138 2 rfl trivial ?_
                refine R_cv hc138 rfl rfl (l_eats (A := (u A 100 l)) (F := (u (u (u F 25 pl) 27 v) 26 1)) h24 ⟨by (show 0 ≤ pl); omega, by (show pl ≤ F 24); omega⟩ h106 (by show 1 = 0 ∨ 1 = 1; omega) (c := 59) (by decide)) (fun r G9 hp9 => ?_)
                obtain ⟨rfl, f1, a1, rfl, hf1, hw1, p1, q1⟩ := hp9
                have q1 : a1 ≤ F 24 := q1
                have hw1 : eE (A 106) (F 24) 59 (1, pl) = (f1, a1) := hw1
                refine R_s (f' := (138, [some (vR 88), some (vI (x + 1)), some (vI 1), some (vI ((48 * (F 21)) + (8 * x))), some (vI (nx (A 106) (F 24) (pl)))], [], LAY (u A 100 l) (u (u (u F 27 v) 26 f1) 25 a1), 0, 0)) hc138 0 rfl trivial ?_
                refine R_s (P := True) (f' := (141, [some (vR 88), some (vI (x + 1)), some (vI 1), some (vI ((48 * (F 21)) + (8 * x))), some (vI (nx (A 106) (F 24) (pl)))], [vI 32, vR 88], LAY (u A 100 l) (u (u (u F 27 v) 26 f1) 25 a1), 0, 0)) hc138 2 rfl trivial ?_
                refine R_cv hc138 rfl rfl (l_eats (A := (u A 100 l)) (F := (u (u (u F 27 v) 26 f1) 25 a1)) h24 ⟨by (show 0 ≤ a1); omega, by (show a1 ≤ F 24); omega⟩ h106 (by show f1 = 0 ∨ f1 = 1; omega) (c := 32) (by decide)) (fun r G9 hp9 => ?_)
                obtain ⟨rfl, f2, a2, rfl, hf2, hw2, p2, q2⟩ := hp9
                have q2 : a2 ≤ F 24 := q2
                have hw2 : eE (A 106) (F 24) 32 (f1, a1) = (f2, a2) := hw2
                refine R_s (f' := (144, [some (vR 88), some (vI (x + 1)), some (vI 1), some (vI ((48 * (F 21)) + (8 * x))), some (vI (nx (A 106) (F 24) (pl)))], [], LAY (u A 100 l) (u (u (u F 27 v) 26 f2) 25 a2), 0, 0)) hc138 0 rfl trivial ?_
                refine R_s (P := True) (f' := (14, [some (vR 88), some (vI (x + 1)), some (vI 1), some (vI ((48 * (F 21)) + (8 * x))), some (vI (nx (A 106) (F 24) (pl)))], [], LAY (u A 100 l) (u (u (u F 27 v) 26 f2) 25 a2), 0, 0)) hc138 1 rfl trivial ?_
                refine R_s (P := True) (f' := (14, [some (vR 88), some (vI (x + 1)), some (vI 1), some (vI ((48 * (F 21)) + (8 * x))), some (vI (nx (A 106) (F 24) (pl)))], [], LAY (u A 100 l) (u (u (u F 26 f2) 25 a2) 27 v), 0, 0)) hc138 0 rfl trivial ?_
                have hk : eK (A 106) (F 24) i (sT (A 106) (F 24) i) = 3 := by
                  rw [hs f0]
                  unfold eK
                  (try dsimp only)
                  rw [if_neg (fun z => by omega), if_neg (fun z => by omega), if_neg (fun z => by omega)]
                have hE : eN (A 106) (F 24) i (sT (A 106) (F 24) i) = (1, pl) := by
                  rw [eN_3 hk, hs f0]
                  have z : wD (A 106) (F 24) REST (0, pl) = (1, pl) := wD_no (c := 114) (cs := [101, 115, 116, 32]) (by omega)
                  rw [z, hS_f]
                have h9 : (f2, a2) = ((1 : Int), pl) := by
                  rw [eE_f] at hw1
                  have z1 := congrArg Prod.fst hw1
                  have z2 := congrArg Prod.snd hw1
                  (try dsimp only at z1 z2)
                  rw [← z1, ← z2, eE_f] at hw2
                  exact hw2.symm
                have z3 : f2 = 1 := congrArg Prod.fst h9
                have z4 : a2 = pl := congrArg Prod.snd h9
                refine ih (i + 1) _ _ _ _ _ _ _ (by omega) hl (by omega) ⟨by omega, by omega⟩ hkp (fun q => by omega) (fun q => by omega) (fun _ => ?_) (fun q => by omega) (by omega) (by omega)
                rw [z4]
                exact ⟨i, by omega, hg f0, .inl ⟨by rw [hE]; exact (show ¬ (1 : Int) = 0 by decide), by rw [hE]⟩⟩
              · refine R_s (P := True) (f' := (109, [some (vR 88), some (vI x), some (vI 1), some (vI ((48 * (F 21)) + (8 * x))), some (vI (nx (A 106) (F 24) (pl)))], [vI x], LAY (u A 100 l) (u (u (u F 26 f) 25 pl) 27 v), 0, 0)) hc138 1 rfl trivial ?_
                refine R_if (t := 120) hc138 rfl rfl (fun (c9 : ¬ x = 0) => ?_) (fun (c9 : ¬ (¬ x = 0)) => ?_)
                · refine R_s (P := (1 = 0 ∨ 1 = 1) ∧ inI (x + 1) ∧ True) (f' := (129, [some (vR 88), some (vI (x + 1)), some (vI 1), some (vI ((48 * (F 21)) + (8 * x))), some (vI (nx (A 106) (F 24) (pl)))], [vI 1], LAY (u A 100 l) (u (u (u F 25 pl) 27 v) 26 1), 0, 0)) hc138 5 rfl ⟨(by omega), ⟨by omega, by omega⟩, trivial⟩ ?_
                  refine R_if (t := 144) hc138 rfl rfl (fun (z : 1 = 0) => absurd z (by decide)) (fun (_ : ¬ (1 = 0)) => ?_)
                  refine R_s (P := True) (f' := (135, [some (vR 88), some (vI (x + 1)), some (vI 1), some (vI ((48 * (F 21)) + (8 * x))), some (vI (nx (A 106) (F 24) (pl)))], [vI 59, vR 88], LAY (u A 100 l) (u (u (u F 25 pl) 27 v) 26 1), 0, 0)) hc138 2 rfl trivial ?_
                  refine R_cv hc138 rfl rfl (l_eats (A := (u A 100 l)) (F := (u (u (u F 25 pl) 27 v) 26 1)) h24 ⟨by (show 0 ≤ pl); omega, by (show pl ≤ F 24); omega⟩ h106 (by show 1 = 0 ∨ 1 = 1; omega) (c := 59) (by decide)) (fun r G9 hp9 => ?_)
                  obtain ⟨rfl, f3, a3, rfl, hf3, hw3, p3, q3⟩ := hp9
                  have q3 : a3 ≤ F 24 := q3
                  have hw3 : eE (A 106) (F 24) 59 (1, pl) = (f3, a3) := hw3
                  refine R_s (f' := (138, [some (vR 88), some (vI (x + 1)), some (vI 1), some (vI ((48 * (F 21)) + (8 * x))), some (vI (nx (A 106) (F 24) (pl)))], [], LAY (u A 100 l) (u (u (u F 27 v) 26 f3) 25 a3), 0, 0)) hc138 0 rfl trivial ?_
                  refine R_s (P := True) (f' := (141, [some (vR 88), some (vI (x + 1)), some (vI 1), some (vI ((48 * (F 21)) + (8 * x))), some (vI (nx (A 106) (F 24) (pl)))], [vI 32, vR 88], LAY (u A 100 l) (u (u (u F 27 v) 26 f3) 25 a3), 0, 0)) hc138 2 rfl trivial ?_
                  refine R_cv hc138 rfl rfl (l_eats (A := (u A 100 l)) (F := (u (u (u F 27 v) 26 f3) 25 a3)) h24 ⟨by (show 0 ≤ a3); omega, by (show a3 ≤ F 24); omega⟩ h106 (by show f3 = 0 ∨ f3 = 1; omega) (c := 32) (by decide)) (fun r G9 hp9 => ?_)
                  obtain ⟨rfl, f4, a4, rfl, hf4, hw4, p4, q4⟩ := hp9
                  have q4 : a4 ≤ F 24 := q4
                  have hw4 : eE (A 106) (F 24) 32 (f3, a3) = (f4, a4) := hw4
                  refine R_s (f' := (144, [some (vR 88), some (vI (x + 1)), some (vI 1), some (vI ((48 * (F 21)) + (8 * x))), some (vI (nx (A 106) (F 24) (pl)))], [], LAY (u A 100 l) (u (u (u F 27 v) 26 f4) 25 a4), 0, 0)) hc138 0 rfl trivial ?_
                  refine R_s (P := True) (f' := (14, [some (vR 88), some (vI (x + 1)), some (vI 1), some (vI ((48 * (F 21)) + (8 * x))), some (vI (nx (A 106) (F 24) (pl)))], [], LAY (u A 100 l) (u (u (u F 27 v) 26 f4) 25 a4), 0, 0)) hc138 1 rfl trivial ?_
                  refine R_s (P := True) (f' := (14, [some (vR 88), some (vI (x + 1)), some (vI 1), some (vI ((48 * (F 21)) + (8 * x))), some (vI (nx (A 106) (F 24) (pl)))], [], LAY (u A 100 l) (u (u (u F 26 f4) 25 a4) 27 v), 0, 0)) hc138 0 rfl trivial ?_
                  have hk : eK (A 106) (F 24) i (sT (A 106) (F 24) i) = 3 := by
                    rw [hs f0]
                    unfold eK
                    (try dsimp only)
                    rw [if_neg (fun z => by omega), if_neg (fun z => by omega), if_neg (fun z => by omega)]
                  have hE : eN (A 106) (F 24) i (sT (A 106) (F 24) i) = (1, pl) := by
                    rw [eN_3 hk, hs f0]
                    have z : wD (A 106) (F 24) REST (0, pl) = (1, pl) := wD_no (c := 114) (cs := [101, 115, 116, 32]) (by omega)
                    rw [z, hS_f]
                  have h9 : (f4, a4) = ((1 : Int), pl) := by
                    rw [eE_f] at hw3
                    have z1 := congrArg Prod.fst hw3
                    have z2 := congrArg Prod.snd hw3
                    (try dsimp only at z1 z2)
                    rw [← z1, ← z2, eE_f] at hw4
                    exact hw4.symm
                  have z3 : f4 = 1 := congrArg Prod.fst h9
                  have z4 : a4 = pl := congrArg Prod.snd h9
                  refine ih (i + 1) _ _ _ _ _ _ _ (by omega) hl (by omega) ⟨by omega, by omega⟩ hkp (fun q => by omega) (fun q => by omega) (fun _ => ?_) (fun q => by omega) (by omega) (by omega)
                  rw [z4]
                  exact ⟨i, by omega, hg f0, .inl ⟨by rw [hE]; exact (show ¬ (1 : Int) = 0 by decide), by rw [hE]⟩⟩
                · refine R_s (P := True) (f' := (114, [some (vR 88), some (vI x), some (vI 1), some (vI ((48 * (F 21)) + (8 * x))), some (vI (nx (A 106) (F 24) (pl)))], [vI ((48 * (F 21)) + (8 * x)), vR 88], LAY (u A 100 l) (u (u (u F 26 f) 25 pl) 27 v), 0, 0)) hc138 2 rfl trivial ?_
                  refine R_cv hc138 rfl rfl (l_mman (a := 48 * F 21 + 8 * x) (A := (u A 100 l)) (F := (u (u (u F 26 f) 25 pl) 27 v)) h24 ⟨by (show 0 ≤ pl); omega, by (show pl ≤ F 24); omega⟩ h106 hl (by omega) f0 (i := i) (show eK (A 106) (F 24) i (f, pl) = 2 from (by unfold eK; (try dsimp only); rw [if_neg (fun z => by omega)]; rw [if_neg (fun z => by omega)]; rw [if_pos ⟨by omega, by omega⟩]))) (fun r G9 hp9 => ?_)
                  obtain ⟨rfl, m5, f5, a5, v5, rfl, lm5, hf5, p5, q5, km5, hw5, hv5⟩ := hp9
                  have q5 : a5 ≤ F 24 := q5
                  have km5 : ∀ q : Int, 0 ≤ q → (q < 48 * F 21 + 8 * x + 0 ∨ 48 * F 21 + 8 * x + 7 < q) → rd m5 q = rd l q := km5
                  have hw5 : eN (A 106) (F 24) i (f, pl) = (f5, a5) := hw5
                  rw [f0, ← hs f0] at hw5
                  have hk5 : eK (A 106) (F 24) i (sT (A 106) (F 24) i) = 2 := by
                    rw [hs f0]
                    unfold eK
                    (try dsimp only)
                    rw [if_neg (fun z => by omega)]
                    rw [if_neg (fun z => by omega)]
                    rw [if_pos ⟨by omega, by omega⟩]
                  have hv5 : f5 = 0 → eV (A 106) (F 24) i (sT (A 106) (F 24) i) (rd m5 (48 * F 21 + 8 * i)) (rd m5 (48 * F 21 + 8 * i + 1)) (rd m5 (48 * F 21 + 8 * i + 2)) (rd m5 (48 * F 21 + 8 * i + 3)) (rd m5 (48 * F 21 + 8 * i + 4)) (rd m5 (48 * F 21 + 8 * i + 5) + 1) (rd m5 (48 * F 21 + 8 * i + 6)) (rd m5 (48 * F 21 + 8 * i + 7)) := fun z => by
                    rw [hs f0, ← ex, ← f0]
                    exact hv5 z
                  have kp5 : ∀ q : Int, 0 ≤ q → q < 48 * F 21 → rd m5 q = rd (A 100) q := fun q q1 q2 => by
                    rw [km5 q q1 (by omega)]
                    exact hkp q q1 q2
                  have hvv5 : ∀ j : Nat, j < i + 1 → f5 = 0 → eV (A 106) (F 24) j (sT (A 106) (F 24) j) (rd m5 (48 * F 21 + 8 * j)) (rd m5 (48 * F 21 + 8 * j + 1)) (rd m5 (48 * F 21 + 8 * j + 2)) (rd m5 (48 * F 21 + 8 * j + 3)) (rd m5 (48 * F 21 + 8 * j + 4)) (rd m5 (48 * F 21 + 8 * j + 5) + 1) (rd m5 (48 * F 21 + 8 * j + 6)) (rd m5 (48 * F 21 + 8 * j + 7)) := fun j hj z => by
                    by_cases q : j = i
                    · rw [q]
                      exact hv5 z
                    · rw [km5 _ (by omega) (by omega), km5 _ (by omega) (by omega), km5 _ (by omega) (by omega), km5 _ (by omega) (by omega), km5 _ (by omega) (by omega), km5 _ (by omega) (by omega), km5 _ (by omega) (by omega), km5 _ (by omega) (by omega)]
                      exact hvs f0 j (by omega)
                  refine R_s (f' := (117, [some (vR 88), some (vI x), some (vI 1), some (vI ((48 * (F 21)) + (8 * x))), some (vI (nx (A 106) (F 24) (pl)))], [], LAY (u A 100 m5) (u (u (u F 26 f5) 25 a5) 27 v5), 0, 0)) hc138 0 rfl trivial ?_
                  refine R_s (P := inI (x + 1) ∧ True) (f' := (129, [some (vR 88), some (vI (x + 1)), some (vI 1), some (vI ((48 * (F 21)) + (8 * x))), some (vI (nx (A 106) (F 24) (pl)))], [vI 1], LAY (u A 100 m5) (u (u (u F 26 f5) 25 a5) 27 v5), 0, 0)) hc138 3 rfl ⟨⟨by omega, by omega⟩, trivial⟩ ?_
                  refine R_if (t := 144) hc138 rfl rfl (fun (z : 1 = 0) => absurd z (by decide)) (fun (_ : ¬ (1 = 0)) => ?_)
                  refine R_s (P := True) (f' := (135, [some (vR 88), some (vI (x + 1)), some (vI 1), some (vI ((48 * (F 21)) + (8 * x))), some (vI (nx (A 106) (F 24) (pl)))], [vI 59, vR 88], LAY (u A 100 m5) (u (u (u F 26 f5) 25 a5) 27 v5), 0, 0)) hc138 2 rfl trivial ?_
                  refine R_cv hc138 rfl rfl (l_eats (A := (u A 100 m5)) (F := (u (u (u F 26 f5) 25 a5) 27 v5)) h24 ⟨by (show 0 ≤ a5); omega, by (show a5 ≤ F 24); omega⟩ h106 (by show f5 = 0 ∨ f5 = 1; omega) (c := 59) (by decide)) (fun r G9 hp9 => ?_)
                  obtain ⟨rfl, f6, a6, rfl, hf6, hw6, p6, q6⟩ := hp9
                  have q6 : a6 ≤ F 24 := q6
                  have hw6 : eE (A 106) (F 24) 59 (f5, a5) = (f6, a6) := hw6
                  refine R_s (f' := (138, [some (vR 88), some (vI (x + 1)), some (vI 1), some (vI ((48 * (F 21)) + (8 * x))), some (vI (nx (A 106) (F 24) (pl)))], [], LAY (u A 100 m5) (u (u (u F 27 v5) 26 f6) 25 a6), 0, 0)) hc138 0 rfl trivial ?_
                  refine R_s (P := True) (f' := (141, [some (vR 88), some (vI (x + 1)), some (vI 1), some (vI ((48 * (F 21)) + (8 * x))), some (vI (nx (A 106) (F 24) (pl)))], [vI 32, vR 88], LAY (u A 100 m5) (u (u (u F 27 v5) 26 f6) 25 a6), 0, 0)) hc138 2 rfl trivial ?_
                  refine R_cv hc138 rfl rfl (l_eats (A := (u A 100 m5)) (F := (u (u (u F 27 v5) 26 f6) 25 a6)) h24 ⟨by (show 0 ≤ a6); omega, by (show a6 ≤ F 24); omega⟩ h106 (by show f6 = 0 ∨ f6 = 1; omega) (c := 32) (by decide)) (fun r G9 hp9 => ?_)
                  obtain ⟨rfl, f7, a7, rfl, hf7, hw7, p7, q7⟩ := hp9
                  have q7 : a7 ≤ F 24 := q7
                  have hw7 : eE (A 106) (F 24) 32 (f6, a6) = (f7, a7) := hw7
                  refine R_s (f' := (144, [some (vR 88), some (vI (x + 1)), some (vI 1), some (vI ((48 * (F 21)) + (8 * x))), some (vI (nx (A 106) (F 24) (pl)))], [], LAY (u A 100 m5) (u (u (u F 27 v5) 26 f7) 25 a7), 0, 0)) hc138 0 rfl trivial ?_
                  refine R_s (P := True) (f' := (14, [some (vR 88), some (vI (x + 1)), some (vI 1), some (vI ((48 * (F 21)) + (8 * x))), some (vI (nx (A 106) (F 24) (pl)))], [], LAY (u A 100 m5) (u (u (u F 27 v5) 26 f7) 25 a7), 0, 0)) hc138 1 rfl trivial ?_
                  refine R_s (P := True) (f' := (14, [some (vR 88), some (vI (x + 1)), some (vI 1), some (vI ((48 * (F 21)) + (8 * x))), some (vI (nx (A 106) (F 24) (pl)))], [], LAY (u A 100 m5) (u (u (u F 26 f7) 25 a7) 27 v5), 0, 0)) hc138 0 rfl trivial ?_
                  have hW : wD (A 106) (F 24) SEMI (f5, a5) = (f7, a7) := by simp only [SEMI, wD, hw6, hw7]
                  have hT : sT (A 106) (F 24) (i + 1) = (f7, a7) := by
                    show wD (A 106) (F 24) SEMI (eN (A 106) (F 24) i (sT (A 106) (F 24) i)) = _
                    rw [hw5]
                    exact hW
                  have hff : f7 = 0 → f5 = 0 := fun z => by
                    refine Classical.byContradiction (fun q => ?_)
                    have q1 : f5 = 1 := by omega
                    rw [q1, wD_f] at hW
                    have q2 := congrArg Prod.fst hW
                    (try dsimp only at q2)
                    omega
                  refine ih (i + 1) _ _ _ _ _ _ _ (by omega) lm5 (by omega) ⟨by omega, by omega⟩ kp5 (fun q => by rw [hT, q]) (fun q j hj => ?_) (fun q => ?_) (fun q j hj => hvv5 j hj (hff q)) (by omega) (by omega)
                  · by_cases z : j = i
                    · rw [z]
                      exact ⟨by rw [hw5]; exact hff q, by rw [hk5]; decide, by rw [hT]; exact q⟩
                    · exact hg f0 j (by omega)
                  · by_cases z : f5 = 0
                    · exact ⟨i, by omega, hg f0, .inr (.inr ⟨by rw [hw5]; exact z, by rw [hk5]; decide, by rw [hT, q]; (try dsimp only); decide, by rw [hT]⟩)⟩
                    · have q1 : f5 = 1 := by omega
                      have q2 := hW
                      rw [q1, wD_f] at q2
                      have q3 := congrArg Prod.snd q2
                      (try dsimp only at q3)
                      exact ⟨i, by omega, hg f0, .inl ⟨by rw [hw5]; exact z, by rw [hw5]; exact q3.symm⟩⟩
            · refine R_s (P := True) (f' := (90, [some (vR 88), some (vI x), some (vI 1), some (vI ((48 * (F 21)) + (8 * x))), some (vI (nx (A 106) (F 24) (pl)))], [vI 5, vI x], LAY (u A 100 l) (u (u (u F 26 f) 25 pl) 27 v), 0, 0)) hc138 2 rfl trivial ?_
              refine R_ic (t := 101) hc138 rfl rfl (fun (c12 : 5 ≤ x) => ?_) (fun (c12 : ¬ (5 ≤ x)) => ?_)
              · refine R_s (P := True) (f' := (105, [some (vR 88), some (vI x), some (vI 1), some (vI ((48 * (F 21)) + (8 * x))), some (vI (nx (A 106) (F 24) (pl)))], [vI 109, vI (nx (A 106) (F 24) (pl))], LAY (u A 100 l) (u (u (u F 26 f) 25 pl) 27 v), 0, 0)) hc138 2 rfl trivial ?_
                refine R_ic (t := 120) hc138 rfl rfl (fun (_ : ¬ nx (A 106) (F 24) (pl) = 109) => ?_) (fun (z : ¬ (¬ nx (A 106) (F 24) (pl) = 109)) => absurd (show ¬ nx (A 106) (F 24) (pl) = 109 by omega) z)
                refine R_s (P := (1 = 0 ∨ 1 = 1) ∧ inI (x + 1) ∧ True) (f' := (129, [some (vR 88), some (vI (x + 1)), some (vI 1), some (vI ((48 * (F 21)) + (8 * x))), some (vI (nx (A 106) (F 24) (pl)))], [vI 1], LAY (u A 100 l) (u (u (u F 25 pl) 27 v) 26 1), 0, 0)) hc138 5 rfl ⟨(by omega), ⟨by omega, by omega⟩, trivial⟩ ?_
                refine R_if (t := 144) hc138 rfl rfl (fun (z : 1 = 0) => absurd z (by decide)) (fun (_ : ¬ (1 = 0)) => ?_)
                refine R_s (P := True) (f' := (135, [some (vR 88), some (vI (x + 1)), some (vI 1), some (vI ((48 * (F 21)) + (8 * x))), some (vI (nx (A 106) (F 24) (pl)))], [vI 59, vR 88], LAY (u A 100 l) (u (u (u F 25 pl) 27 v) 26 1), 0, 0)) hc138 2 rfl trivial ?_
                refine R_cv hc138 rfl rfl (l_eats (A := (u A 100 l)) (F := (u (u (u F 25 pl) 27 v) 26 1)) h24 ⟨by (show 0 ≤ pl); omega, by (show pl ≤ F 24); omega⟩ h106 (by show 1 = 0 ∨ 1 = 1; omega) (c := 59) (by decide)) (fun r G9 hp9 => ?_)
                obtain ⟨rfl, f8, a8, rfl, hf8, hw8, p8, q8⟩ := hp9
                have q8 : a8 ≤ F 24 := q8
                have hw8 : eE (A 106) (F 24) 59 (1, pl) = (f8, a8) := hw8
                refine R_s (f' := (138, [some (vR 88), some (vI (x + 1)), some (vI 1), some (vI ((48 * (F 21)) + (8 * x))), some (vI (nx (A 106) (F 24) (pl)))], [], LAY (u A 100 l) (u (u (u F 27 v) 26 f8) 25 a8), 0, 0)) hc138 0 rfl trivial ?_
                refine R_s (P := True) (f' := (141, [some (vR 88), some (vI (x + 1)), some (vI 1), some (vI ((48 * (F 21)) + (8 * x))), some (vI (nx (A 106) (F 24) (pl)))], [vI 32, vR 88], LAY (u A 100 l) (u (u (u F 27 v) 26 f8) 25 a8), 0, 0)) hc138 2 rfl trivial ?_
                refine R_cv hc138 rfl rfl (l_eats (A := (u A 100 l)) (F := (u (u (u F 27 v) 26 f8) 25 a8)) h24 ⟨by (show 0 ≤ a8); omega, by (show a8 ≤ F 24); omega⟩ h106 (by show f8 = 0 ∨ f8 = 1; omega) (c := 32) (by decide)) (fun r G9 hp9 => ?_)
                obtain ⟨rfl, f9, a9, rfl, hf9, hw9, p9, q9⟩ := hp9
                have q9 : a9 ≤ F 24 := q9
                have hw9 : eE (A 106) (F 24) 32 (f8, a8) = (f9, a9) := hw9
                refine R_s (f' := (144, [some (vR 88), some (vI (x + 1)), some (vI 1), some (vI ((48 * (F 21)) + (8 * x))), some (vI (nx (A 106) (F 24) (pl)))], [], LAY (u A 100 l) (u (u (u F 27 v) 26 f9) 25 a9), 0, 0)) hc138 0 rfl trivial ?_
                refine R_s (P := True) (f' := (14, [some (vR 88), some (vI (x + 1)), some (vI 1), some (vI ((48 * (F 21)) + (8 * x))), some (vI (nx (A 106) (F 24) (pl)))], [], LAY (u A 100 l) (u (u (u F 27 v) 26 f9) 25 a9), 0, 0)) hc138 1 rfl trivial ?_
                refine R_s (P := True) (f' := (14, [some (vR 88), some (vI (x + 1)), some (vI 1), some (vI ((48 * (F 21)) + (8 * x))), some (vI (nx (A 106) (F 24) (pl)))], [], LAY (u A 100 l) (u (u (u F 26 f9) 25 a9) 27 v), 0, 0)) hc138 0 rfl trivial ?_
                have hk : eK (A 106) (F 24) i (sT (A 106) (F 24) i) = 3 := by
                  rw [hs f0]
                  unfold eK
                  (try dsimp only)
                  rw [if_neg (fun z => by omega), if_neg (fun z => by omega), if_neg (fun z => by omega)]
                have hE : eN (A 106) (F 24) i (sT (A 106) (F 24) i) = (1, pl) := by
                  rw [eN_3 hk, hs f0]
                  have z : wD (A 106) (F 24) REST (0, pl) = (1, pl) := wD_no (c := 114) (cs := [101, 115, 116, 32]) (by omega)
                  rw [z, hS_f]
                have h9 : (f9, a9) = ((1 : Int), pl) := by
                  rw [eE_f] at hw8
                  have z1 := congrArg Prod.fst hw8
                  have z2 := congrArg Prod.snd hw8
                  (try dsimp only at z1 z2)
                  rw [← z1, ← z2, eE_f] at hw9
                  exact hw9.symm
                have z3 : f9 = 1 := congrArg Prod.fst h9
                have z4 : a9 = pl := congrArg Prod.snd h9
                refine ih (i + 1) _ _ _ _ _ _ _ (by omega) hl (by omega) ⟨by omega, by omega⟩ hkp (fun q => by omega) (fun q => by omega) (fun _ => ?_) (fun q => by omega) (by omega) (by omega)
                rw [z4]
                exact ⟨i, by omega, hg f0, .inl ⟨by rw [hE]; exact (show ¬ (1 : Int) = 0 by decide), by rw [hE]⟩⟩
              · refine R_s (P := True) (f' := (95, [some (vR 88), some (vI x), some (vI 1), some (vI ((48 * (F 21)) + (8 * x))), some (vI (nx (A 106) (F 24) (pl)))], [vI ((48 * (F 21)) + (8 * x)), vR 88], LAY (u A 100 l) (u (u (u F 26 f) 25 pl) 27 v), 0, 0)) hc138 2 rfl trivial ?_
                refine R_cv hc138 rfl rfl (l_mline (a := 48 * F 21 + 8 * x) (A := (u A 100 l)) (F := (u (u (u F 26 f) 25 pl) 27 v)) h24 ⟨by (show 0 ≤ pl); omega, by (show pl ≤ F 24); omega⟩ h106 hl (by omega) f0 (i := i) (show eK (A 106) (F 24) i (f, pl) = 1 from (by unfold eK; (try dsimp only); rw [if_neg (fun z => by omega)]; rw [if_pos ⟨by omega, by omega⟩]))) (fun r G9 hp9 => ?_)
                obtain ⟨rfl, m10, f10, a10, v10, rfl, lm10, hf10, p10, q10, km10, hw10, hv10⟩ := hp9
                have q10 : a10 ≤ F 24 := q10
                have km10 : ∀ q : Int, 0 ≤ q → (q < 48 * F 21 + 8 * x + 0 ∨ 48 * F 21 + 8 * x + 7 < q) → rd m10 q = rd l q := km10
                have hw10 : eN (A 106) (F 24) i (f, pl) = (f10, a10) := hw10
                rw [f0, ← hs f0] at hw10
                have hk10 : eK (A 106) (F 24) i (sT (A 106) (F 24) i) = 1 := by
                  rw [hs f0]
                  unfold eK
                  (try dsimp only)
                  rw [if_neg (fun z => by omega)]
                  rw [if_pos ⟨by omega, by omega⟩]
                have hv10 : f10 = 0 → eV (A 106) (F 24) i (sT (A 106) (F 24) i) (rd m10 (48 * F 21 + 8 * i)) (rd m10 (48 * F 21 + 8 * i + 1)) (rd m10 (48 * F 21 + 8 * i + 2)) (rd m10 (48 * F 21 + 8 * i + 3)) (rd m10 (48 * F 21 + 8 * i + 4)) (rd m10 (48 * F 21 + 8 * i + 5) + 1) (rd m10 (48 * F 21 + 8 * i + 6)) (rd m10 (48 * F 21 + 8 * i + 7)) := fun z => by
                  rw [hs f0, ← ex, ← f0]
                  exact hv10 z
                have kp10 : ∀ q : Int, 0 ≤ q → q < 48 * F 21 → rd m10 q = rd (A 100) q := fun q q1 q2 => by
                  rw [km10 q q1 (by omega)]
                  exact hkp q q1 q2
                have hvv10 : ∀ j : Nat, j < i + 1 → f10 = 0 → eV (A 106) (F 24) j (sT (A 106) (F 24) j) (rd m10 (48 * F 21 + 8 * j)) (rd m10 (48 * F 21 + 8 * j + 1)) (rd m10 (48 * F 21 + 8 * j + 2)) (rd m10 (48 * F 21 + 8 * j + 3)) (rd m10 (48 * F 21 + 8 * j + 4)) (rd m10 (48 * F 21 + 8 * j + 5) + 1) (rd m10 (48 * F 21 + 8 * j + 6)) (rd m10 (48 * F 21 + 8 * j + 7)) := fun j hj z => by
                  by_cases q : j = i
                  · rw [q]
                    exact hv10 z
                  · rw [km10 _ (by omega) (by omega), km10 _ (by omega) (by omega), km10 _ (by omega) (by omega), km10 _ (by omega) (by omega), km10 _ (by omega) (by omega), km10 _ (by omega) (by omega), km10 _ (by omega) (by omega), km10 _ (by omega) (by omega)]
                    exact hvs f0 j (by omega)
                refine R_s (f' := (98, [some (vR 88), some (vI x), some (vI 1), some (vI ((48 * (F 21)) + (8 * x))), some (vI (nx (A 106) (F 24) (pl)))], [], LAY (u A 100 m10) (u (u (u F 26 f10) 25 a10) 27 v10), 0, 0)) hc138 0 rfl trivial ?_
                refine R_s (P := inI (x + 1) ∧ True) (f' := (129, [some (vR 88), some (vI (x + 1)), some (vI 1), some (vI ((48 * (F 21)) + (8 * x))), some (vI (nx (A 106) (F 24) (pl)))], [vI 1], LAY (u A 100 m10) (u (u (u F 26 f10) 25 a10) 27 v10), 0, 0)) hc138 3 rfl ⟨⟨by omega, by omega⟩, trivial⟩ ?_
                refine R_if (t := 144) hc138 rfl rfl (fun (z : 1 = 0) => absurd z (by decide)) (fun (_ : ¬ (1 = 0)) => ?_)
                refine R_s (P := True) (f' := (135, [some (vR 88), some (vI (x + 1)), some (vI 1), some (vI ((48 * (F 21)) + (8 * x))), some (vI (nx (A 106) (F 24) (pl)))], [vI 59, vR 88], LAY (u A 100 m10) (u (u (u F 26 f10) 25 a10) 27 v10), 0, 0)) hc138 2 rfl trivial ?_
                refine R_cv hc138 rfl rfl (l_eats (A := (u A 100 m10)) (F := (u (u (u F 26 f10) 25 a10) 27 v10)) h24 ⟨by (show 0 ≤ a10); omega, by (show a10 ≤ F 24); omega⟩ h106 (by show f10 = 0 ∨ f10 = 1; omega) (c := 59) (by decide)) (fun r G9 hp9 => ?_)
                obtain ⟨rfl, f11, a11, rfl, hf11, hw11, p11, q11⟩ := hp9
                have q11 : a11 ≤ F 24 := q11
                have hw11 : eE (A 106) (F 24) 59 (f10, a10) = (f11, a11) := hw11
                refine R_s (f' := (138, [some (vR 88), some (vI (x + 1)), some (vI 1), some (vI ((48 * (F 21)) + (8 * x))), some (vI (nx (A 106) (F 24) (pl)))], [], LAY (u A 100 m10) (u (u (u F 27 v10) 26 f11) 25 a11), 0, 0)) hc138 0 rfl trivial ?_
                refine R_s (P := True) (f' := (141, [some (vR 88), some (vI (x + 1)), some (vI 1), some (vI ((48 * (F 21)) + (8 * x))), some (vI (nx (A 106) (F 24) (pl)))], [vI 32, vR 88], LAY (u A 100 m10) (u (u (u F 27 v10) 26 f11) 25 a11), 0, 0)) hc138 2 rfl trivial ?_
                refine R_cv hc138 rfl rfl (l_eats (A := (u A 100 m10)) (F := (u (u (u F 27 v10) 26 f11) 25 a11)) h24 ⟨by (show 0 ≤ a11); omega, by (show a11 ≤ F 24); omega⟩ h106 (by show f11 = 0 ∨ f11 = 1; omega) (c := 32) (by decide)) (fun r G9 hp9 => ?_)
                obtain ⟨rfl, f12, a12, rfl, hf12, hw12, p12, q12⟩ := hp9
                have q12 : a12 ≤ F 24 := q12
                have hw12 : eE (A 106) (F 24) 32 (f11, a11) = (f12, a12) := hw12
                refine R_s (f' := (144, [some (vR 88), some (vI (x + 1)), some (vI 1), some (vI ((48 * (F 21)) + (8 * x))), some (vI (nx (A 106) (F 24) (pl)))], [], LAY (u A 100 m10) (u (u (u F 27 v10) 26 f12) 25 a12), 0, 0)) hc138 0 rfl trivial ?_
                refine R_s (P := True) (f' := (14, [some (vR 88), some (vI (x + 1)), some (vI 1), some (vI ((48 * (F 21)) + (8 * x))), some (vI (nx (A 106) (F 24) (pl)))], [], LAY (u A 100 m10) (u (u (u F 27 v10) 26 f12) 25 a12), 0, 0)) hc138 1 rfl trivial ?_
                refine R_s (P := True) (f' := (14, [some (vR 88), some (vI (x + 1)), some (vI 1), some (vI ((48 * (F 21)) + (8 * x))), some (vI (nx (A 106) (F 24) (pl)))], [], LAY (u A 100 m10) (u (u (u F 26 f12) 25 a12) 27 v10), 0, 0)) hc138 0 rfl trivial ?_
                have hW : wD (A 106) (F 24) SEMI (f10, a10) = (f12, a12) := by simp only [SEMI, wD, hw11, hw12]
                have hT : sT (A 106) (F 24) (i + 1) = (f12, a12) := by
                  show wD (A 106) (F 24) SEMI (eN (A 106) (F 24) i (sT (A 106) (F 24) i)) = _
                  rw [hw10]
                  exact hW
                have hff : f12 = 0 → f10 = 0 := fun z => by
                  refine Classical.byContradiction (fun q => ?_)
                  have q1 : f10 = 1 := by omega
                  rw [q1, wD_f] at hW
                  have q2 := congrArg Prod.fst hW
                  (try dsimp only at q2)
                  omega
                refine ih (i + 1) _ _ _ _ _ _ _ (by omega) lm10 (by omega) ⟨by omega, by omega⟩ kp10 (fun q => by rw [hT, q]) (fun q j hj => ?_) (fun q => ?_) (fun q j hj => hvv10 j hj (hff q)) (by omega) (by omega)
                · by_cases z : j = i
                  · rw [z]
                    exact ⟨by rw [hw10]; exact hff q, by rw [hk10]; decide, by rw [hT]; exact q⟩
                  · exact hg f0 j (by omega)
                · by_cases z : f10 = 0
                  · exact ⟨i, by omega, hg f0, .inr (.inr ⟨by rw [hw10]; exact z, by rw [hk10]; decide, by rw [hT, q]; (try dsimp only); decide, by rw [hT]⟩)⟩
                  · have q1 : f10 = 1 := by omega
                    have q2 := hW
                    rw [q1, wD_f] at q2
                    have q3 := congrArg Prod.snd q2
                    (try dsimp only at q3)
                    exact ⟨i, by omega, hg f0, .inl ⟨by rw [hw10]; exact z, by rw [hw10]; exact q3.symm⟩⟩
          · refine R_s (P := True) (f' := (70, [some (vR 88), some (vI x), some (vI 1), some (vI ((48 * (F 21)) + (8 * x))), some (vI (nx (A 106) (F 24) (pl)))], [vI 5, vI x], LAY (u A 100 l) (u (u (u F 26 f) 25 pl) 27 v), 0, 0)) hc138 2 rfl trivial ?_
            refine R_ic (t := 81) hc138 rfl rfl (fun (c16 : 5 ≤ x) => ?_) (fun (c16 : ¬ (5 ≤ x)) => ?_)
            · refine R_s (P := True) (f' := (85, [some (vR 88), some (vI x), some (vI 1), some (vI ((48 * (F 21)) + (8 * x))), some (vI (nx (A 106) (F 24) (pl)))], [vI 108, vI (nx (A 106) (F 24) (pl))], LAY (u A 100 l) (u (u (u F 26 f) 25 pl) 27 v), 0, 0)) hc138 2 rfl trivial ?_
              refine R_ic (t := 101) hc138 rfl rfl (fun (_ : ¬ nx (A 106) (F 24) (pl) = 108) => ?_) (fun (z : ¬ (¬ nx (A 106) (F 24) (pl) = 108)) => absurd (show ¬ nx (A 106) (F 24) (pl) = 108 by omega) z)
              refine R_s (P := True) (f' := (105, [some (vR 88), some (vI x), some (vI 1), some (vI ((48 * (F 21)) + (8 * x))), some (vI (nx (A 106) (F 24) (pl)))], [vI 109, vI (nx (A 106) (F 24) (pl))], LAY (u A 100 l) (u (u (u F 26 f) 25 pl) 27 v), 0, 0)) hc138 2 rfl trivial ?_
              refine R_ic (t := 120) hc138 rfl rfl (fun (_ : ¬ nx (A 106) (F 24) (pl) = 109) => ?_) (fun (z : ¬ (¬ nx (A 106) (F 24) (pl) = 109)) => absurd (show ¬ nx (A 106) (F 24) (pl) = 109 by omega) z)
              refine R_s (P := (1 = 0 ∨ 1 = 1) ∧ inI (x + 1) ∧ True) (f' := (129, [some (vR 88), some (vI (x + 1)), some (vI 1), some (vI ((48 * (F 21)) + (8 * x))), some (vI (nx (A 106) (F 24) (pl)))], [vI 1], LAY (u A 100 l) (u (u (u F 25 pl) 27 v) 26 1), 0, 0)) hc138 5 rfl ⟨(by omega), ⟨by omega, by omega⟩, trivial⟩ ?_
              refine R_if (t := 144) hc138 rfl rfl (fun (z : 1 = 0) => absurd z (by decide)) (fun (_ : ¬ (1 = 0)) => ?_)
              refine R_s (P := True) (f' := (135, [some (vR 88), some (vI (x + 1)), some (vI 1), some (vI ((48 * (F 21)) + (8 * x))), some (vI (nx (A 106) (F 24) (pl)))], [vI 59, vR 88], LAY (u A 100 l) (u (u (u F 25 pl) 27 v) 26 1), 0, 0)) hc138 2 rfl trivial ?_
              refine R_cv hc138 rfl rfl (l_eats (A := (u A 100 l)) (F := (u (u (u F 25 pl) 27 v) 26 1)) h24 ⟨by (show 0 ≤ pl); omega, by (show pl ≤ F 24); omega⟩ h106 (by show 1 = 0 ∨ 1 = 1; omega) (c := 59) (by decide)) (fun r G9 hp9 => ?_)
              obtain ⟨rfl, f13, a13, rfl, hf13, hw13, p13, q13⟩ := hp9
              have q13 : a13 ≤ F 24 := q13
              have hw13 : eE (A 106) (F 24) 59 (1, pl) = (f13, a13) := hw13
              refine R_s (f' := (138, [some (vR 88), some (vI (x + 1)), some (vI 1), some (vI ((48 * (F 21)) + (8 * x))), some (vI (nx (A 106) (F 24) (pl)))], [], LAY (u A 100 l) (u (u (u F 27 v) 26 f13) 25 a13), 0, 0)) hc138 0 rfl trivial ?_
              refine R_s (P := True) (f' := (141, [some (vR 88), some (vI (x + 1)), some (vI 1), some (vI ((48 * (F 21)) + (8 * x))), some (vI (nx (A 106) (F 24) (pl)))], [vI 32, vR 88], LAY (u A 100 l) (u (u (u F 27 v) 26 f13) 25 a13), 0, 0)) hc138 2 rfl trivial ?_
              refine R_cv hc138 rfl rfl (l_eats (A := (u A 100 l)) (F := (u (u (u F 27 v) 26 f13) 25 a13)) h24 ⟨by (show 0 ≤ a13); omega, by (show a13 ≤ F 24); omega⟩ h106 (by show f13 = 0 ∨ f13 = 1; omega) (c := 32) (by decide)) (fun r G9 hp9 => ?_)
              obtain ⟨rfl, f14, a14, rfl, hf14, hw14, p14, q14⟩ := hp9
              have q14 : a14 ≤ F 24 := q14
              have hw14 : eE (A 106) (F 24) 32 (f13, a13) = (f14, a14) := hw14
              refine R_s (f' := (144, [some (vR 88), some (vI (x + 1)), some (vI 1), some (vI ((48 * (F 21)) + (8 * x))), some (vI (nx (A 106) (F 24) (pl)))], [], LAY (u A 100 l) (u (u (u F 27 v) 26 f14) 25 a14), 0, 0)) hc138 0 rfl trivial ?_
              refine R_s (P := True) (f' := (14, [some (vR 88), some (vI (x + 1)), some (vI 1), some (vI ((48 * (F 21)) + (8 * x))), some (vI (nx (A 106) (F 24) (pl)))], [], LAY (u A 100 l) (u (u (u F 27 v) 26 f14) 25 a14), 0, 0)) hc138 1 rfl trivial ?_
              refine R_s (P := True) (f' := (14, [some (vR 88), some (vI (x + 1)), some (vI 1), some (vI ((48 * (F 21)) + (8 * x))), some (vI (nx (A 106) (F 24) (pl)))], [], LAY (u A 100 l) (u (u (u F 26 f14) 25 a14) 27 v), 0, 0)) hc138 0 rfl trivial ?_
              have hk : eK (A 106) (F 24) i (sT (A 106) (F 24) i) = 3 := by
                rw [hs f0]
                unfold eK
                (try dsimp only)
                rw [if_neg (fun z => by omega), if_neg (fun z => by omega), if_neg (fun z => by omega)]
              have hE : eN (A 106) (F 24) i (sT (A 106) (F 24) i) = (1, pl) := by
                rw [eN_3 hk, hs f0]
                have z : wD (A 106) (F 24) REST (0, pl) = (1, pl) := wD_no (c := 114) (cs := [101, 115, 116, 32]) (by omega)
                rw [z, hS_f]
              have h9 : (f14, a14) = ((1 : Int), pl) := by
                rw [eE_f] at hw13
                have z1 := congrArg Prod.fst hw13
                have z2 := congrArg Prod.snd hw13
                (try dsimp only at z1 z2)
                rw [← z1, ← z2, eE_f] at hw14
                exact hw14.symm
              have z3 : f14 = 1 := congrArg Prod.fst h9
              have z4 : a14 = pl := congrArg Prod.snd h9
              refine ih (i + 1) _ _ _ _ _ _ _ (by omega) hl (by omega) ⟨by omega, by omega⟩ hkp (fun q => by omega) (fun q => by omega) (fun _ => ?_) (fun q => by omega) (by omega) (by omega)
              rw [z4]
              exact ⟨i, by omega, hg f0, .inl ⟨by rw [hE]; exact (show ¬ (1 : Int) = 0 by decide), by rw [hE]⟩⟩
            · refine R_s (P := True) (f' := (75, [some (vR 88), some (vI x), some (vI 1), some (vI ((48 * (F 21)) + (8 * x))), some (vI (nx (A 106) (F 24) (pl)))], [vI ((48 * (F 21)) + (8 * x)), vR 88], LAY (u A 100 l) (u (u (u F 26 f) 25 pl) 27 v), 0, 0)) hc138 2 rfl trivial ?_
              refine R_cv hc138 rfl rfl (l_mfixed (a := 48 * F 21 + 8 * x) (A := (u A 100 l)) (F := (u (u (u F 26 f) 25 pl) 27 v)) h24 ⟨by (show 0 ≤ pl); omega, by (show pl ≤ F 24); omega⟩ h106 hl (by omega) f0 (i := i) (show eK (A 106) (F 24) i (f, pl) = 0 from (by unfold eK; (try dsimp only); rw [if_pos ⟨by omega, by omega⟩]))) (fun r G9 hp9 => ?_)
              obtain ⟨rfl, m15, f15, a15, v15, rfl, lm15, hf15, p15, q15, km15, hw15, hv15⟩ := hp9
              have q15 : a15 ≤ F 24 := q15
              have km15 : ∀ q : Int, 0 ≤ q → (q < 48 * F 21 + 8 * x + 0 ∨ 48 * F 21 + 8 * x + 7 < q) → rd m15 q = rd l q := km15
              have hw15 : eN (A 106) (F 24) i (f, pl) = (f15, a15) := hw15
              rw [f0, ← hs f0] at hw15
              have hk15 : eK (A 106) (F 24) i (sT (A 106) (F 24) i) = 0 := by
                rw [hs f0]
                unfold eK
                (try dsimp only)
                rw [if_pos ⟨by omega, by omega⟩]
              have hv15 : f15 = 0 → eV (A 106) (F 24) i (sT (A 106) (F 24) i) (rd m15 (48 * F 21 + 8 * i)) (rd m15 (48 * F 21 + 8 * i + 1)) (rd m15 (48 * F 21 + 8 * i + 2)) (rd m15 (48 * F 21 + 8 * i + 3)) (rd m15 (48 * F 21 + 8 * i + 4)) (rd m15 (48 * F 21 + 8 * i + 5) + 1) (rd m15 (48 * F 21 + 8 * i + 6)) (rd m15 (48 * F 21 + 8 * i + 7)) := fun z => by
                rw [hs f0, ← ex, ← f0]
                exact hv15 z
              have kp15 : ∀ q : Int, 0 ≤ q → q < 48 * F 21 → rd m15 q = rd (A 100) q := fun q q1 q2 => by
                rw [km15 q q1 (by omega)]
                exact hkp q q1 q2
              have hvv15 : ∀ j : Nat, j < i + 1 → f15 = 0 → eV (A 106) (F 24) j (sT (A 106) (F 24) j) (rd m15 (48 * F 21 + 8 * j)) (rd m15 (48 * F 21 + 8 * j + 1)) (rd m15 (48 * F 21 + 8 * j + 2)) (rd m15 (48 * F 21 + 8 * j + 3)) (rd m15 (48 * F 21 + 8 * j + 4)) (rd m15 (48 * F 21 + 8 * j + 5) + 1) (rd m15 (48 * F 21 + 8 * j + 6)) (rd m15 (48 * F 21 + 8 * j + 7)) := fun j hj z => by
                by_cases q : j = i
                · rw [q]
                  exact hv15 z
                · rw [km15 _ (by omega) (by omega), km15 _ (by omega) (by omega), km15 _ (by omega) (by omega), km15 _ (by omega) (by omega), km15 _ (by omega) (by omega), km15 _ (by omega) (by omega), km15 _ (by omega) (by omega), km15 _ (by omega) (by omega)]
                  exact hvs f0 j (by omega)
              refine R_s (f' := (78, [some (vR 88), some (vI x), some (vI 1), some (vI ((48 * (F 21)) + (8 * x))), some (vI (nx (A 106) (F 24) (pl)))], [], LAY (u A 100 m15) (u (u (u F 26 f15) 25 a15) 27 v15), 0, 0)) hc138 0 rfl trivial ?_
              refine R_s (P := inI (x + 1) ∧ True) (f' := (129, [some (vR 88), some (vI (x + 1)), some (vI 1), some (vI ((48 * (F 21)) + (8 * x))), some (vI (nx (A 106) (F 24) (pl)))], [vI 1], LAY (u A 100 m15) (u (u (u F 26 f15) 25 a15) 27 v15), 0, 0)) hc138 3 rfl ⟨⟨by omega, by omega⟩, trivial⟩ ?_
              refine R_if (t := 144) hc138 rfl rfl (fun (z : 1 = 0) => absurd z (by decide)) (fun (_ : ¬ (1 = 0)) => ?_)
              refine R_s (P := True) (f' := (135, [some (vR 88), some (vI (x + 1)), some (vI 1), some (vI ((48 * (F 21)) + (8 * x))), some (vI (nx (A 106) (F 24) (pl)))], [vI 59, vR 88], LAY (u A 100 m15) (u (u (u F 26 f15) 25 a15) 27 v15), 0, 0)) hc138 2 rfl trivial ?_
              refine R_cv hc138 rfl rfl (l_eats (A := (u A 100 m15)) (F := (u (u (u F 26 f15) 25 a15) 27 v15)) h24 ⟨by (show 0 ≤ a15); omega, by (show a15 ≤ F 24); omega⟩ h106 (by show f15 = 0 ∨ f15 = 1; omega) (c := 59) (by decide)) (fun r G9 hp9 => ?_)
              obtain ⟨rfl, f16, a16, rfl, hf16, hw16, p16, q16⟩ := hp9
              have q16 : a16 ≤ F 24 := q16
              have hw16 : eE (A 106) (F 24) 59 (f15, a15) = (f16, a16) := hw16
              refine R_s (f' := (138, [some (vR 88), some (vI (x + 1)), some (vI 1), some (vI ((48 * (F 21)) + (8 * x))), some (vI (nx (A 106) (F 24) (pl)))], [], LAY (u A 100 m15) (u (u (u F 27 v15) 26 f16) 25 a16), 0, 0)) hc138 0 rfl trivial ?_
              refine R_s (P := True) (f' := (141, [some (vR 88), some (vI (x + 1)), some (vI 1), some (vI ((48 * (F 21)) + (8 * x))), some (vI (nx (A 106) (F 24) (pl)))], [vI 32, vR 88], LAY (u A 100 m15) (u (u (u F 27 v15) 26 f16) 25 a16), 0, 0)) hc138 2 rfl trivial ?_
              refine R_cv hc138 rfl rfl (l_eats (A := (u A 100 m15)) (F := (u (u (u F 27 v15) 26 f16) 25 a16)) h24 ⟨by (show 0 ≤ a16); omega, by (show a16 ≤ F 24); omega⟩ h106 (by show f16 = 0 ∨ f16 = 1; omega) (c := 32) (by decide)) (fun r G9 hp9 => ?_)
              obtain ⟨rfl, f17, a17, rfl, hf17, hw17, p17, q17⟩ := hp9
              have q17 : a17 ≤ F 24 := q17
              have hw17 : eE (A 106) (F 24) 32 (f16, a16) = (f17, a17) := hw17
              refine R_s (f' := (144, [some (vR 88), some (vI (x + 1)), some (vI 1), some (vI ((48 * (F 21)) + (8 * x))), some (vI (nx (A 106) (F 24) (pl)))], [], LAY (u A 100 m15) (u (u (u F 27 v15) 26 f17) 25 a17), 0, 0)) hc138 0 rfl trivial ?_
              refine R_s (P := True) (f' := (14, [some (vR 88), some (vI (x + 1)), some (vI 1), some (vI ((48 * (F 21)) + (8 * x))), some (vI (nx (A 106) (F 24) (pl)))], [], LAY (u A 100 m15) (u (u (u F 27 v15) 26 f17) 25 a17), 0, 0)) hc138 1 rfl trivial ?_
              refine R_s (P := True) (f' := (14, [some (vR 88), some (vI (x + 1)), some (vI 1), some (vI ((48 * (F 21)) + (8 * x))), some (vI (nx (A 106) (F 24) (pl)))], [], LAY (u A 100 m15) (u (u (u F 26 f17) 25 a17) 27 v15), 0, 0)) hc138 0 rfl trivial ?_
              have hW : wD (A 106) (F 24) SEMI (f15, a15) = (f17, a17) := by simp only [SEMI, wD, hw16, hw17]
              have hT : sT (A 106) (F 24) (i + 1) = (f17, a17) := by
                show wD (A 106) (F 24) SEMI (eN (A 106) (F 24) i (sT (A 106) (F 24) i)) = _
                rw [hw15]
                exact hW
              have hff : f17 = 0 → f15 = 0 := fun z => by
                refine Classical.byContradiction (fun q => ?_)
                have q1 : f15 = 1 := by omega
                rw [q1, wD_f] at hW
                have q2 := congrArg Prod.fst hW
                (try dsimp only at q2)
                omega
              refine ih (i + 1) _ _ _ _ _ _ _ (by omega) lm15 (by omega) ⟨by omega, by omega⟩ kp15 (fun q => by rw [hT, q]) (fun q j hj => ?_) (fun q => ?_) (fun q j hj => hvv15 j hj (hff q)) (by omega) (by omega)
              · by_cases z : j = i
                · rw [z]
                  exact ⟨by rw [hw15]; exact hff q, by rw [hk15]; decide, by rw [hT]; exact q⟩
                · exact hg f0 j (by omega)
              · by_cases z : f15 = 0
                · exact ⟨i, by omega, hg f0, .inr (.inr ⟨by rw [hw15]; exact z, by rw [hk15]; decide, by rw [hT, q]; (try dsimp only); decide, by rw [hT]⟩)⟩
                · have q1 : f15 = 1 := by omega
                  have q2 := hW
                  rw [q1, wD_f] at q2
                  have q3 := congrArg Prod.snd q2
                  (try dsimp only at q3)
                  exact ⟨i, by omega, hg f0, .inl ⟨by rw [hw15]; exact z, by rw [hw15]; exact q3.symm⟩⟩
        · refine R_s (P := True) (f' := (53, [some (vR 88), some (vI x), some (vI 1), some (vI ((48 * (F 21)) + (8 * x))), some (vI (nx (A 106) (F 24) (pl)))], [vI ((48 * (F 21)) + (8 * x)), vR 88], LAY (u A 100 l) (u (u (u F 26 f) 25 pl) 27 v), 0, 0)) hc138 2 rfl trivial ?_
          refine R_cv hc138 rfl rfl (l_mrest (a := 48 * F 21 + 8 * x) (A := (u A 100 l)) (F := (u (u (u F 26 f) 25 pl) 27 v)) h24 ⟨by (show 0 ≤ pl); omega, by (show pl ≤ F 24); omega⟩ h106 hl (by omega) f0 (i := i) (show eK (A 106) (F 24) i (f, pl) = 3 from (by unfold eK; (try dsimp only); rw [if_neg (fun z => by omega)]; rw [if_neg (fun z => by omega)]; rw [if_neg (fun z => by omega)]))) (fun r G9 hp9 => ?_)
          obtain ⟨rfl, m18, f18, a18, v18, rfl, lm18, hf18, p18, q18, km18, hw18, hv18⟩ := hp9
          have q18 : a18 ≤ F 24 := q18
          have km18 : ∀ q : Int, 0 ≤ q → (q < 48 * F 21 + 8 * x + 0 ∨ 48 * F 21 + 8 * x + 7 < q) → rd m18 q = rd l q := km18
          have hw18 : eN (A 106) (F 24) i (f, pl) = (f18, a18) := hw18
          rw [f0, ← hs f0] at hw18
          have hk18 : eK (A 106) (F 24) i (sT (A 106) (F 24) i) = 3 := by
            rw [hs f0]
            unfold eK
            (try dsimp only)
            rw [if_neg (fun z => by omega)]
            rw [if_neg (fun z => by omega)]
            rw [if_neg (fun z => by omega)]
          have hv18 : f18 = 0 → eV (A 106) (F 24) i (sT (A 106) (F 24) i) (rd m18 (48 * F 21 + 8 * i)) (rd m18 (48 * F 21 + 8 * i + 1)) (rd m18 (48 * F 21 + 8 * i + 2)) (rd m18 (48 * F 21 + 8 * i + 3)) (rd m18 (48 * F 21 + 8 * i + 4)) (rd m18 (48 * F 21 + 8 * i + 5) + 1) (rd m18 (48 * F 21 + 8 * i + 6)) (rd m18 (48 * F 21 + 8 * i + 7)) := fun z => by
            rw [hs f0, ← ex, ← f0]
            exact hv18 z
          have kp18 : ∀ q : Int, 0 ≤ q → q < 48 * F 21 → rd m18 q = rd (A 100) q := fun q q1 q2 => by
            rw [km18 q q1 (by omega)]
            exact hkp q q1 q2
          have hvv18 : ∀ j : Nat, j < i + 1 → f18 = 0 → eV (A 106) (F 24) j (sT (A 106) (F 24) j) (rd m18 (48 * F 21 + 8 * j)) (rd m18 (48 * F 21 + 8 * j + 1)) (rd m18 (48 * F 21 + 8 * j + 2)) (rd m18 (48 * F 21 + 8 * j + 3)) (rd m18 (48 * F 21 + 8 * j + 4)) (rd m18 (48 * F 21 + 8 * j + 5) + 1) (rd m18 (48 * F 21 + 8 * j + 6)) (rd m18 (48 * F 21 + 8 * j + 7)) := fun j hj z => by
            by_cases q : j = i
            · rw [q]
              exact hv18 z
            · rw [km18 _ (by omega) (by omega), km18 _ (by omega) (by omega), km18 _ (by omega) (by omega), km18 _ (by omega) (by omega), km18 _ (by omega) (by omega), km18 _ (by omega) (by omega), km18 _ (by omega) (by omega), km18 _ (by omega) (by omega)]
              exact hvs f0 j (by omega)
          refine R_s (f' := (56, [some (vR 88), some (vI x), some (vI 1), some (vI ((48 * (F 21)) + (8 * x))), some (vI (nx (A 106) (F 24) (pl)))], [], LAY (u A 100 m18) (u (u (u F 26 f18) 25 a18) 27 v18), 0, 0)) hc138 0 rfl trivial ?_
          refine R_s (P := inI (x + 1) ∧ True) (f' := (129, [some (vR 88), some (vI (x + 1)), some (vI 0), some (vI ((48 * (F 21)) + (8 * x))), some (vI (nx (A 106) (F 24) (pl)))], [vI 0], LAY (u A 100 m18) (u (u (u F 26 f18) 25 a18) 27 v18), 0, 0)) hc138 5 rfl ⟨⟨by omega, by omega⟩, trivial⟩ ?_
          refine R_if (t := 144) hc138 rfl rfl (fun (_ : 0 = 0) => ?_) (fun (z : ¬ (0 = 0)) => absurd (by decide) z)
          refine R_s (P := True) (f' := (14, [some (vR 88), some (vI (x + 1)), some (vI 0), some (vI ((48 * (F 21)) + (8 * x))), some (vI (nx (A 106) (F 24) (pl)))], [], LAY (u A 100 m18) (u (u (u F 26 f18) 25 a18) 27 v18), 0, 0)) hc138 1 rfl trivial ?_
          refine R_s (P := True) (f' := (15, [some (vR 88), some (vI (x + 1)), some (vI 0), some (vI ((48 * (F 21)) + (8 * x))), some (vI (nx (A 106) (F 24) (pl)))], [vI 0], LAY (u A 100 m18) (u (u (u F 26 f18) 25 a18) 27 v18), 0, 0)) hc138 1 rfl trivial ?_
          refine R_if (t := 147) hc138 rfl rfl (fun (_ : 0 = 0) => ?_) (fun (z : ¬ (0 = 0)) => absurd (by decide) z)
          refine R_s (P := True) (f' := (151, [some (vR 88), some (vI (x + 1)), some (vI 0), some (vI ((48 * (F 21)) + (8 * x))), some (vI (nx (A 106) (F 24) (pl)))], [vI f18], LAY (u A 100 m18) (u (u (u F 26 f18) 25 a18) 27 v18), 0, 0)) hc138 2 rfl trivial ?_
          refine R_if (t := 170) hc138 rfl rfl (fun (c23 : ¬ f18 = 0) => ?_) (fun (c23 : ¬ (¬ f18 = 0)) => ?_)
          · refine R_s (P := True) (f' := (171, [some (vR 88), some (vI (x + 1)), some (vI 0), some (vI ((48 * (F 21)) + (8 * x))), some (vI (nx (A 106) (F 24) (pl)))], [vI (x + 1)], LAY (u A 100 m18) (u (u (u F 26 f18) 25 a18) 27 v18), 0, 0)) hc138 1 rfl trivial ?_
            refine R_reti hc138 rfl rfl ⟨m18, f18, a18, x + 1, v18, rfl, rfl, lm18, kp18, ⟨by omega, by omega⟩, ?_⟩
            by_cases q : f18 = 0
            · refine .inr ⟨q, i + 1, by omega, ⟨i, rfl, by omega, hg f0, by rw [hw18, q, show a18 = F 24 by omega], hk18⟩, fun j hj => hvv18 j hj q⟩
            · exact .inl ⟨by omega, i, by omega, hg f0, .inl ⟨by rw [hw18]; exact q, by rw [hw18]⟩⟩
          · refine R_s (P := True) (f' := (162, [some (vR 88), some (vI (x + 1)), some (vI 0), some (vI ((48 * (F 21)) + (8 * x))), some (vI (nx (A 106) (F 24) (pl)))], [vI (F 24), vI a18], LAY (u A 100 m18) (u (u (u F 26 f18) 25 a18) 27 v18), 0, 0)) hc138 4 rfl trivial ?_
            refine R_ic (t := 170) hc138 rfl rfl (fun (c24 : F 24 ≤ a18) => ?_) (fun (c24 : ¬ (F 24 ≤ a18)) => ?_)
            · refine R_s (P := True) (f' := (171, [some (vR 88), some (vI (x + 1)), some (vI 0), some (vI ((48 * (F 21)) + (8 * x))), some (vI (nx (A 106) (F 24) (pl)))], [vI (x + 1)], LAY (u A 100 m18) (u (u (u F 26 f18) 25 a18) 27 v18), 0, 0)) hc138 1 rfl trivial ?_
              refine R_reti hc138 rfl rfl ⟨m18, f18, a18, x + 1, v18, rfl, rfl, lm18, kp18, ⟨by omega, by omega⟩, ?_⟩
              by_cases q : f18 = 0
              · refine .inr ⟨q, i + 1, by omega, ⟨i, rfl, by omega, hg f0, by rw [hw18, q, show a18 = F 24 by omega], hk18⟩, fun j hj => hvv18 j hj q⟩
              · exact .inl ⟨by omega, i, by omega, hg f0, .inl ⟨by rw [hw18]; exact q, by rw [hw18]⟩⟩
            · refine R_s (P := (1 = 0 ∨ 1 = 1) ∧ True) (f' := (171, [some (vR 88), some (vI (x + 1)), some (vI 0), some (vI ((48 * (F 21)) + (8 * x))), some (vI (nx (A 106) (F 24) (pl)))], [vI (x + 1)], LAY (u A 100 m18) (u (u (u F 25 a18) 27 v18) 26 1), 0, 0)) hc138 4 rfl ⟨(by omega), trivial⟩ ?_
              refine R_reti hc138 rfl rfl ⟨m18, 1, a18, x + 1, v18, rfl, rfl, lm18, kp18, ⟨by omega, by omega⟩, ?_⟩
              by_cases q : f18 = 0
              · exact .inl ⟨rfl, i, by omega, hg f0, .inr (.inl ⟨by rw [hw18, q], hk18, by rw [hw18]; (try dsimp only); omega, by rw [hw18]⟩)⟩
              · exfalso
                omega
  refine R_s (P := (0 = 0 ∨ 0 = 1) ∧ True) (f' := (14, [some (vR 88), some (vI 0), some (vI 1), none, none], [], LAY (u A 100 (A 100)) (u (u (u F 26 0) 25 0) 27 (F 27)), 0, 0)) hc138 10 rfl ⟨by decide, trivial⟩ ?_
  exact lp 7 0 _ _ _ _ _ _ _ rfl h100 (.inl rfl) ⟨by decide, h24.1⟩ (fun _ _ _ => rfl) (fun _ => rfl) (fun _ j hj => absurd hj (by omega)) (fun q => absurd q (by decide)) (fun _ j hj => absurd hj (by omega)) (by omega) (by omega)

theorem l_good {A : Nat → List Int} {F : Nat → Int} (h100 : (A 100).length = 288) (h21 : 0 ≤ F 21 ∧ F 21 ≤ 5) (h19 : 0 ≤ F 19 ∧ F 19 ≤ 30) {e : Int} {n : Nat} (he : e = n) (he6 : n ≤ 6) (hN : ∀ j : Nat, j < n → (rd (A 100) (48 * F 21 + 8 * j) = 1 → 0 ≤ rd (A 100) (48 * F 21 + 8 * j + 1) ∧ rd (A 100) (48 * F 21 + 8 * j + 1) ≤ 9999) ∧ (rd (A 100) (48 * F 21 + 8 * j) = 1 ∨ rd (A 100) (48 * F 21 + 8 * j) = 2 → 0 ≤ rd (A 100) (48 * F 21 + 8 * j + 2))) : R 139 (0, L0 139 [vR 88, vI e], [], LAY A F, 0, 0) (fun r G => ∃ c, r = some (vI c) ∧ G = LAY A F ∧ ((c = 1 ∧ sOUND (fun j => rd (A 100) (48 * F 21 + 8 * j)) (fun j => rd (A 100) (48 * F 21 + 8 * j + 1)) (fun j => rd (A 100) (48 * F 21 + 8 * j + 2)) (F 19) n) ∨ (c = 0 ∧ ¬ sOUND (fun j => rd (A 100) (48 * F 21 + 8 * j)) (fun j => rd (A 100) (48 * F 21 + 8 * j + 1)) (fun j => rd (A 100) (48 * F 21 + 8 * j + 2)) (F 19) n))) := by
  have lp : ∀ (m i : Nat) (x : Int) (s : Int) (v4 : Option AV) (fl : Option AV), x = (i : Int) → s = sm (fun j : Nat => if rd (A 100) (48 * F 21 + 8 * j) = 1 then rd (A 100) (48 * F 21 + 8 * j + 1) else 0) i → (∀ j, j < i → ¬ bAD ((fun j => rd (A 100) (48 * F 21 + 8 * j)) j) ((fun j => rd (A 100) (48 * F 21 + 8 * j + 1)) j) ((fun j => rd (A 100) (48 * F 21 + 8 * j + 2)) j) (F 19)) → i ≤ n → n + 1 ≤ i + m → R 139 (4, [some (vR 88), some (vI e), some (vI s), some (vI x), v4, fl], [], LAY A F, 0, 0) (fun r G => ∃ c, r = some (vI c) ∧ G = LAY A F ∧ ((c = 1 ∧ sOUND (fun j => rd (A 100) (48 * F 21 + 8 * j)) (fun j => rd (A 100) (48 * F 21 + 8 * j + 1)) (fun j => rd (A 100) (48 * F 21 + 8 * j + 2)) (F 19) n) ∨ (c = 0 ∧ ¬ sOUND (fun j => rd (A 100) (48 * F 21 + 8 * j)) (fun j => rd (A 100) (48 * F 21 + 8 * j + 1)) (fun j => rd (A 100) (48 * F 21 + 8 * j + 2)) (F 19) n))) := by
    intro m
    induction m with
    | zero =>
      intro i x s v4 fl ex es hb hi hm
      exact absurd hm (by omega)
    | succ m ih =>
      intro i x s v4 fl ex es hb hi hm
      have hbd := sm_bd (g := (fun j : Nat => if rd (A 100) (48 * F 21 + 8 * j) = 1 then rd (A 100) (48 * F 21 + 8 * j + 1) else 0)) (b := 9999) i (fun j hj => by
        have z := (hN j (by omega)).1
        (try dsimp only)
        split
        · rename_i q
          exact z q
        · omega)
      rw [← es] at hbd
      have hNi := hN i
      rw [← ex] at hNi
      refine R_s (P := True) (f' := (6, [some (vR 88), some (vI e), some (vI s), some (vI x), v4, fl], [vI e, vI x], LAY A F, 0, 0)) hc139 2 rfl trivial ?_
      refine R_ic (t := 133) hc139 rfl rfl (fun (c1 : e ≤ x) => ?_) (fun (c1 : ¬ (e ≤ x)) => ?_)
      · refine R_s (P := True) (f' := (136, [some (vR 88), some (vI e), some (vI s), some (vI x), v4, fl], [vI 12, vI s], LAY A F, 0, 0)) hc139 2 rfl trivial ?_
        refine R_ic (t := 143) hc139 rfl rfl (fun (c2 : 12 < s) => ?_) (fun (c2 : ¬ (12 < s)) => ?_)
        · refine R_s (P := True) (f' := (144, [some (vR 88), some (vI e), some (vI s), some (vI x), v4, fl], [vI 0], LAY A F, 0, 0)) hc139 1 rfl trivial ?_
          refine R_retz hc139 rfl rfl (Or.inl rfl) ⟨0, rfl, rfl, .inr ⟨rfl, fun z => ?_⟩⟩
          have z1 : sm (fun j : Nat => if rd (A 100) (48 * F 21 + 8 * j) = 1 then rd (A 100) (48 * F 21 + 8 * j + 1) else 0) n = s := by rw [es, show i = n by omega]
          have z2 := z.2
          rw [z1] at z2
          omega
        · refine R_s (P := True) (f' := (144, [some (vR 88), some (vI e), some (vI s), some (vI x), v4, fl], [vI 1], LAY A F, 0, 0)) hc139 2 rfl trivial ?_
          refine R_retz hc139 rfl rfl (Or.inr rfl) ⟨1, rfl, rfl, .inl ⟨rfl, fun j hj => hb j (by omega), ?_⟩⟩
          have z : sm (fun j : Nat => if rd (A 100) (48 * F 21 + 8 * j) = 1 then rd (A 100) (48 * F 21 + 8 * j + 1) else 0) n = s := by rw [es, show i = n by omega]
          rw [z]
          omega
      · refine R_s (P := inI (48 * (F 21)) ∧ inI (8 * x) ∧ inI ((48 * (F 21)) + (8 * x)) ∧ (0 ≤ (48 * (F 21)) + (8 * x) ∧ (48 * (F 21)) + (8 * x) < ((A 100).length : Int)) ∧ True) (f' := (32, [some (vR 88), some (vI e), some (vI s), some (vI x), some (vI ((48 * (F 21)) + (8 * x))), fl], [vI 1, vI (rd (A 100) ((48 * (F 21)) + (8 * x))), vI s], LAY A F, 0, 0)) hc139 15 rfl ⟨⟨by omega, by omega⟩, ⟨by omega, by omega⟩, ⟨by omega, by omega⟩, ⟨by omega, by omega⟩, trivial⟩ ?_
        refine R_ic (t := 47) hc139 rfl rfl (fun (c3 : ¬ rd (A 100) ((48 * (F 21)) + (8 * x)) = 1) => ?_) (fun (c3 : ¬ (¬ rd (A 100) ((48 * (F 21)) + (8 * x)) = 1)) => ?_)
        · refine R_s (P := inI (s + 0) ∧ (0 ≤ (48 * (F 21)) + (8 * x) ∧ (48 * (F 21)) + (8 * x) < ((A 100).length : Int)) ∧ True) (f' := (58, [some (vR 88), some (vI e), some (vI (s + 0)), some (vI x), some (vI ((48 * (F 21)) + (8 * x))), fl], [vI 1, vI (rd (A 100) ((48 * (F 21)) + (8 * x)))], LAY A F, 0, 0)) hc139 8 rfl ⟨⟨by omega, by omega⟩, ⟨by omega, by omega⟩, trivial⟩ ?_
          refine R_ic (t := 72) hc139 rfl rfl (fun (z : rd (A 100) ((48 * (F 21)) + (8 * x)) = 1) => absurd z (by omega)) (fun (_ : ¬ (rd (A 100) ((48 * (F 21)) + (8 * x)) = 1)) => ?_)
          refine R_s (P := (0 ≤ (48 * (F 21)) + (8 * x) ∧ (48 * (F 21)) + (8 * x) < ((A 100).length : Int)) ∧ True) (f' := (69, [some (vR 88), some (vI e), some (vI (s + 0)), some (vI x), some (vI ((48 * (F 21)) + (8 * x))), fl], [vI 2, vI (rd (A 100) ((48 * (F 21)) + (8 * x)))], LAY A F, 0, 0)) hc139 5 rfl ⟨⟨by omega, by omega⟩, trivial⟩ ?_
          refine R_ic (t := 76) hc139 rfl rfl (fun (c5 : ¬ rd (A 100) ((48 * (F 21)) + (8 * x)) = 2) => ?_) (fun (c5 : ¬ (¬ rd (A 100) ((48 * (F 21)) + (8 * x)) = 2)) => ?_)
          · refine R_s (P := True) (f' := (81, [some (vR 88), some (vI e), some (vI (s + 0)), some (vI x), some (vI ((48 * (F 21)) + (8 * x))), some (vI 0)], [vI 0], LAY A F, 0, 0)) hc139 3 rfl trivial ?_
            refine R_if (t := 100) hc139 rfl rfl (fun (_ : 0 = 0) => ?_) (fun (z : ¬ (0 = 0)) => absurd (by decide) z)
            refine R_s (P := (0 ≤ (48 * (F 21)) + (8 * x) ∧ (48 * (F 21)) + (8 * x) < ((A 100).length : Int)) ∧ True) (f' := (108, [some (vR 88), some (vI e), some (vI (s + 0)), some (vI x), some (vI ((48 * (F 21)) + (8 * x))), some (vI 0)], [vI 2, vI (rd (A 100) ((48 * (F 21)) + (8 * x)))], LAY A F, 0, 0)) hc139 5 rfl ⟨⟨by omega, by omega⟩, trivial⟩ ?_
            refine R_ic (t := 127) hc139 rfl rfl (fun (_ : ¬ rd (A 100) ((48 * (F 21)) + (8 * x)) = 2) => ?_) (fun (z : ¬ (¬ rd (A 100) ((48 * (F 21)) + (8 * x)) = 2)) => absurd (show ¬ rd (A 100) ((48 * (F 21)) + (8 * x)) = 2 by omega) z)
            refine R_s (P := inI (x + 1) ∧ True) (f' := (4, [some (vR 88), some (vI e), some (vI (s + 0)), some (vI (x + 1)), some (vI ((48 * (F 21)) + (8 * x))), some (vI 0)], [], LAY A F, 0, 0)) hc139 2 rfl ⟨⟨by omega, by omega⟩, trivial⟩ ?_
            refine ih (i + 1) _ _ _ _ (by omega) ?_ (fun j hj => ?_) (by omega) (by omega)
            · simp only [sm]
              rw [← es, ← ex]
              split <;> omega
            · by_cases q : j = i
              · rw [q]
                (try dsimp only)
                rw [← ex]
                unfold bAD
                have z := hNi (by omega)
                omega
              · exact hb j (by omega)
          · refine R_s (P := True) (f' := (81, [some (vR 88), some (vI e), some (vI (s + 0)), some (vI x), some (vI ((48 * (F 21)) + (8 * x))), some (vI 1)], [vI 1], LAY A F, 0, 0)) hc139 4 rfl trivial ?_
            refine R_if (t := 100) hc139 rfl rfl (fun (z : 1 = 0) => absurd z (by decide)) (fun (_ : ¬ (1 = 0)) => ?_)
            refine R_s (P := inI (((48 * (F 21)) + (8 * x)) + 2) ∧ (0 ≤ ((48 * (F 21)) + (8 * x)) + 2 ∧ ((48 * (F 21)) + (8 * x)) + 2 < ((A 100).length : Int)) ∧ True) (f' := (94, [some (vR 88), some (vI e), some (vI (s + 0)), some (vI x), some (vI ((48 * (F 21)) + (8 * x))), some (vI 1)], [vI (rd (A 100) (((48 * (F 21)) + (8 * x)) + 2)), vR 88], LAY A F, 0, 0)) hc139 7 rfl ⟨⟨by omega, by omega⟩, ⟨by omega, by omega⟩, trivial⟩ ?_
            refine R_cv hc139 rfl rfl ?_ (fun r G h => h)
            refine R_s (P := inI ((F 19) - 1) ∧ True) (f' := (8, [some (vR 88), some (vI (rd (A 100) (((48 * (F 21)) + (8 * x)) + 2)))], [vI ((F 19) - 1), vI 0, vI (rd (A 100) (((48 * (F 21)) + (8 * x)) + 2))], LAY A F, 0, 0)) hc106 6 rfl ⟨⟨by omega, by omega⟩, trivial⟩ ?_
            refine R_cs hc106 rfl rfl ?_ (fun r G h => h)
            refine R_s (P := True) (f' := (2, [some (vI (rd (A 100) (((48 * (F 21)) + (8 * x)) + 2))), some (vI 0), some (vI ((F 19) - 1))], [vI 0, vI (rd (A 100) (((48 * (F 21)) + (8 * x)) + 2))], LAY A F, 0, 0)) hc104 2 rfl trivial ?_
            refine R_ic (t := 14) hc104 rfl rfl (fun (c9 : rd (A 100) (((48 * (F 21)) + (8 * x)) + 2) < 0) => ?_) (fun (c9 : ¬ (rd (A 100) (((48 * (F 21)) + (8 * x)) + 2) < 0)) => ?_)
            · refine R_s (P := True) (f' := (15, [some (vI (rd (A 100) (((48 * (F 21)) + (8 * x)) + 2))), some (vI 0), some (vI ((F 19) - 1))], [vI 0], LAY A F, 0, 0)) hc104 1 rfl trivial ?_
              refine R_retz hc104 rfl rfl (Or.inl rfl) ?_
              refine R_s (f' := (11, [some (vR 88), some (vI (rd (A 100) (((48 * (F 21)) + (8 * x)) + 2)))], [vI 0], LAY A F, 0, 0)) hc106 0 rfl trivial ?_
              refine R_retz hc106 rfl rfl (Or.inl rfl) ?_
              refine R_s (f' := (97, [some (vR 88), some (vI e), some (vI (s + 0)), some (vI x), some (vI ((48 * (F 21)) + (8 * x))), some (vI 1)], [vI 0], LAY A F, 0, 0)) hc139 0 rfl trivial ?_
              refine R_if (t := 125) hc139 rfl rfl (fun (_ : 0 = 0) => ?_) (fun (z : ¬ (0 = 0)) => absurd (by decide) z)
              refine R_s (P := True) (f' := (126, [some (vR 88), some (vI e), some (vI (s + 0)), some (vI x), some (vI ((48 * (F 21)) + (8 * x))), some (vI 1)], [vI 0], LAY A F, 0, 0)) hc139 1 rfl trivial ?_
              refine R_retz hc139 rfl rfl (Or.inl rfl) ⟨0, rfl, rfl, .inr ⟨rfl, fun z => z.1 i (by omega) ?_⟩⟩
              (try dsimp only)
              rw [← ex]
              unfold bAD
              have z := hNi (by omega)
              omega
            · refine R_s (P := True) (f' := (7, [some (vI (rd (A 100) (((48 * (F 21)) + (8 * x)) + 2))), some (vI 0), some (vI ((F 19) - 1))], [vI ((F 19) - 1), vI (rd (A 100) (((48 * (F 21)) + (8 * x)) + 2))], LAY A F, 0, 0)) hc104 2 rfl trivial ?_
              refine R_ic (t := 14) hc104 rfl rfl (fun (c10 : (F 19) - 1 < rd (A 100) (((48 * (F 21)) + (8 * x)) + 2)) => ?_) (fun (c10 : ¬ ((F 19) - 1 < rd (A 100) (((48 * (F 21)) + (8 * x)) + 2))) => ?_)
              · refine R_s (P := True) (f' := (15, [some (vI (rd (A 100) (((48 * (F 21)) + (8 * x)) + 2))), some (vI 0), some (vI ((F 19) - 1))], [vI 0], LAY A F, 0, 0)) hc104 1 rfl trivial ?_
                refine R_retz hc104 rfl rfl (Or.inl rfl) ?_
                refine R_s (f' := (11, [some (vR 88), some (vI (rd (A 100) (((48 * (F 21)) + (8 * x)) + 2)))], [vI 0], LAY A F, 0, 0)) hc106 0 rfl trivial ?_
                refine R_retz hc106 rfl rfl (Or.inl rfl) ?_
                refine R_s (f' := (97, [some (vR 88), some (vI e), some (vI (s + 0)), some (vI x), some (vI ((48 * (F 21)) + (8 * x))), some (vI 1)], [vI 0], LAY A F, 0, 0)) hc139 0 rfl trivial ?_
                refine R_if (t := 125) hc139 rfl rfl (fun (_ : 0 = 0) => ?_) (fun (z : ¬ (0 = 0)) => absurd (by decide) z)
                refine R_s (P := True) (f' := (126, [some (vR 88), some (vI e), some (vI (s + 0)), some (vI x), some (vI ((48 * (F 21)) + (8 * x))), some (vI 1)], [vI 0], LAY A F, 0, 0)) hc139 1 rfl trivial ?_
                refine R_retz hc139 rfl rfl (Or.inl rfl) ⟨0, rfl, rfl, .inr ⟨rfl, fun z => z.1 i (by omega) ?_⟩⟩
                (try dsimp only)
                rw [← ex]
                unfold bAD
                have z := hNi (by omega)
                omega
              · refine R_s (P := True) (f' := (15, [some (vI (rd (A 100) (((48 * (F 21)) + (8 * x)) + 2))), some (vI 0), some (vI ((F 19) - 1))], [vI 1], LAY A F, 0, 0)) hc104 2 rfl trivial ?_
                refine R_retz hc104 rfl rfl (Or.inr rfl) ?_
                refine R_s (f' := (11, [some (vR 88), some (vI (rd (A 100) (((48 * (F 21)) + (8 * x)) + 2)))], [vI 1], LAY A F, 0, 0)) hc106 0 rfl trivial ?_
                refine R_retz hc106 rfl rfl (Or.inr rfl) ?_
                refine R_s (f' := (97, [some (vR 88), some (vI e), some (vI (s + 0)), some (vI x), some (vI ((48 * (F 21)) + (8 * x))), some (vI 1)], [vI 1], LAY A F, 0, 0)) hc139 0 rfl trivial ?_
                refine R_if (t := 125) hc139 rfl rfl (fun (z : 1 = 0) => absurd z (by decide)) (fun (_ : ¬ (1 = 0)) => ?_)
                refine R_s (P := (0 ≤ (48 * (F 21)) + (8 * x) ∧ (48 * (F 21)) + (8 * x) < ((A 100).length : Int)) ∧ True) (f' := (108, [some (vR 88), some (vI e), some (vI (s + 0)), some (vI x), some (vI ((48 * (F 21)) + (8 * x))), some (vI 1)], [vI 2, vI (rd (A 100) ((48 * (F 21)) + (8 * x)))], LAY A F, 0, 0)) hc139 5 rfl ⟨⟨by omega, by omega⟩, trivial⟩ ?_
                refine R_ic (t := 127) hc139 rfl rfl (fun (z : ¬ rd (A 100) ((48 * (F 21)) + (8 * x)) = 2) => absurd z (by omega)) (fun (_ : ¬ (¬ rd (A 100) ((48 * (F 21)) + (8 * x)) = 2)) => ?_)
                refine R_s (P := inI (((48 * (F 21)) + (8 * x)) + 1) ∧ (0 ≤ ((48 * (F 21)) + (8 * x)) + 1 ∧ ((48 * (F 21)) + (8 * x)) + 1 < ((A 100).length : Int)) ∧ True) (f' := (122, [some (vR 88), some (vI e), some (vI (s + 0)), some (vI x), some (vI ((48 * (F 21)) + (8 * x))), some (vI 1)], [vI 100, vI (rd (A 100) (((48 * (F 21)) + (8 * x)) + 1))], LAY A F, 0, 0)) hc139 7 rfl ⟨⟨by omega, by omega⟩, ⟨by omega, by omega⟩, trivial⟩ ?_
                refine R_ic (t := 127) hc139 rfl rfl (fun (c13 : rd (A 100) (((48 * (F 21)) + (8 * x)) + 1) ≤ 100) => ?_) (fun (c13 : ¬ (rd (A 100) (((48 * (F 21)) + (8 * x)) + 1) ≤ 100)) => ?_)
                · refine R_s (P := inI (x + 1) ∧ True) (f' := (4, [some (vR 88), some (vI e), some (vI (s + 0)), some (vI (x + 1)), some (vI ((48 * (F 21)) + (8 * x))), some (vI 1)], [], LAY A F, 0, 0)) hc139 2 rfl ⟨⟨by omega, by omega⟩, trivial⟩ ?_
                  refine ih (i + 1) _ _ _ _ (by omega) ?_ (fun j hj => ?_) (by omega) (by omega)
                  · simp only [sm]
                    rw [← es, ← ex]
                    split <;> omega
                  · by_cases q : j = i
                    · rw [q]
                      (try dsimp only)
                      rw [← ex]
                      unfold bAD
                      have z := hNi (by omega)
                      omega
                    · exact hb j (by omega)
                · refine R_s (P := True) (f' := (126, [some (vR 88), some (vI e), some (vI (s + 0)), some (vI x), some (vI ((48 * (F 21)) + (8 * x))), some (vI 1)], [vI 0], LAY A F, 0, 0)) hc139 1 rfl trivial ?_
                  refine R_retz hc139 rfl rfl (Or.inl rfl) ⟨0, rfl, rfl, .inr ⟨rfl, fun z => z.1 i (by omega) ?_⟩⟩
                  (try dsimp only)
                  rw [← ex]
                  unfold bAD
                  have z := hNi (by omega)
                  omega
        · refine R_s (P := inI (((48 * (F 21)) + (8 * x)) + 1) ∧ (0 ≤ ((48 * (F 21)) + (8 * x)) + 1 ∧ ((48 * (F 21)) + (8 * x)) + 1 < ((A 100).length : Int)) ∧ inI (s + (rd (A 100) (((48 * (F 21)) + (8 * x)) + 1))) ∧ (0 ≤ (48 * (F 21)) + (8 * x) ∧ (48 * (F 21)) + (8 * x) < ((A 100).length : Int)) ∧ True) (f' := (58, [some (vR 88), some (vI e), some (vI (s + (rd (A 100) (((48 * (F 21)) + (8 * x)) + 1)))), some (vI x), some (vI ((48 * (F 21)) + (8 * x))), fl], [vI 1, vI (rd (A 100) ((48 * (F 21)) + (8 * x)))], LAY A F, 0, 0)) hc139 14 rfl ⟨⟨by omega, by omega⟩, ⟨by omega, by omega⟩, ⟨by omega, by omega⟩, ⟨by omega, by omega⟩, trivial⟩ ?_
          refine R_ic (t := 72) hc139 rfl rfl (fun (_ : rd (A 100) ((48 * (F 21)) + (8 * x)) = 1) => ?_) (fun (z : ¬ (rd (A 100) ((48 * (F 21)) + (8 * x)) = 1)) => absurd (show rd (A 100) ((48 * (F 21)) + (8 * x)) = 1 by omega) z)
          refine R_s (P := True) (f' := (81, [some (vR 88), some (vI e), some (vI (s + (rd (A 100) (((48 * (F 21)) + (8 * x)) + 1)))), some (vI x), some (vI ((48 * (F 21)) + (8 * x))), some (vI 1)], [vI 1], LAY A F, 0, 0)) hc139 4 rfl trivial ?_
          refine R_if (t := 100) hc139 rfl rfl (fun (z : 1 = 0) => absurd z (by decide)) (fun (_ : ¬ (1 = 0)) => ?_)
          refine R_s (P := inI (((48 * (F 21)) + (8 * x)) + 2) ∧ (0 ≤ ((48 * (F 21)) + (8 * x)) + 2 ∧ ((48 * (F 21)) + (8 * x)) + 2 < ((A 100).length : Int)) ∧ True) (f' := (94, [some (vR 88), some (vI e), some (vI (s + (rd (A 100) (((48 * (F 21)) + (8 * x)) + 1)))), some (vI x), some (vI ((48 * (F 21)) + (8 * x))), some (vI 1)], [vI (rd (A 100) (((48 * (F 21)) + (8 * x)) + 2)), vR 88], LAY A F, 0, 0)) hc139 7 rfl ⟨⟨by omega, by omega⟩, ⟨by omega, by omega⟩, trivial⟩ ?_
          refine R_cv hc139 rfl rfl ?_ (fun r G h => h)
          refine R_s (P := inI ((F 19) - 1) ∧ True) (f' := (8, [some (vR 88), some (vI (rd (A 100) (((48 * (F 21)) + (8 * x)) + 2)))], [vI ((F 19) - 1), vI 0, vI (rd (A 100) (((48 * (F 21)) + (8 * x)) + 2))], LAY A F, 0, 0)) hc106 6 rfl ⟨⟨by omega, by omega⟩, trivial⟩ ?_
          refine R_cs hc106 rfl rfl ?_ (fun r G h => h)
          refine R_s (P := True) (f' := (2, [some (vI (rd (A 100) (((48 * (F 21)) + (8 * x)) + 2))), some (vI 0), some (vI ((F 19) - 1))], [vI 0, vI (rd (A 100) (((48 * (F 21)) + (8 * x)) + 2))], LAY A F, 0, 0)) hc104 2 rfl trivial ?_
          refine R_ic (t := 14) hc104 rfl rfl (fun (c16 : rd (A 100) (((48 * (F 21)) + (8 * x)) + 2) < 0) => ?_) (fun (c16 : ¬ (rd (A 100) (((48 * (F 21)) + (8 * x)) + 2) < 0)) => ?_)
          · refine R_s (P := True) (f' := (15, [some (vI (rd (A 100) (((48 * (F 21)) + (8 * x)) + 2))), some (vI 0), some (vI ((F 19) - 1))], [vI 0], LAY A F, 0, 0)) hc104 1 rfl trivial ?_
            refine R_retz hc104 rfl rfl (Or.inl rfl) ?_
            refine R_s (f' := (11, [some (vR 88), some (vI (rd (A 100) (((48 * (F 21)) + (8 * x)) + 2)))], [vI 0], LAY A F, 0, 0)) hc106 0 rfl trivial ?_
            refine R_retz hc106 rfl rfl (Or.inl rfl) ?_
            refine R_s (f' := (97, [some (vR 88), some (vI e), some (vI (s + (rd (A 100) (((48 * (F 21)) + (8 * x)) + 1)))), some (vI x), some (vI ((48 * (F 21)) + (8 * x))), some (vI 1)], [vI 0], LAY A F, 0, 0)) hc139 0 rfl trivial ?_
            refine R_if (t := 125) hc139 rfl rfl (fun (_ : 0 = 0) => ?_) (fun (z : ¬ (0 = 0)) => absurd (by decide) z)
            refine R_s (P := True) (f' := (126, [some (vR 88), some (vI e), some (vI (s + (rd (A 100) (((48 * (F 21)) + (8 * x)) + 1)))), some (vI x), some (vI ((48 * (F 21)) + (8 * x))), some (vI 1)], [vI 0], LAY A F, 0, 0)) hc139 1 rfl trivial ?_
            refine R_retz hc139 rfl rfl (Or.inl rfl) ⟨0, rfl, rfl, .inr ⟨rfl, fun z => z.1 i (by omega) ?_⟩⟩
            (try dsimp only)
            rw [← ex]
            unfold bAD
            have z := hNi (by omega)
            omega
          · refine R_s (P := True) (f' := (7, [some (vI (rd (A 100) (((48 * (F 21)) + (8 * x)) + 2))), some (vI 0), some (vI ((F 19) - 1))], [vI ((F 19) - 1), vI (rd (A 100) (((48 * (F 21)) + (8 * x)) + 2))], LAY A F, 0, 0)) hc104 2 rfl trivial ?_
            refine R_ic (t := 14) hc104 rfl rfl (fun (c17 : (F 19) - 1 < rd (A 100) (((48 * (F 21)) + (8 * x)) + 2)) => ?_) (fun (c17 : ¬ ((F 19) - 1 < rd (A 100) (((48 * (F 21)) + (8 * x)) + 2))) => ?_)
            · refine R_s (P := True) (f' := (15, [some (vI (rd (A 100) (((48 * (F 21)) + (8 * x)) + 2))), some (vI 0), some (vI ((F 19) - 1))], [vI 0], LAY A F, 0, 0)) hc104 1 rfl trivial ?_
              refine R_retz hc104 rfl rfl (Or.inl rfl) ?_
              refine R_s (f' := (11, [some (vR 88), some (vI (rd (A 100) (((48 * (F 21)) + (8 * x)) + 2)))], [vI 0], LAY A F, 0, 0)) hc106 0 rfl trivial ?_
              refine R_retz hc106 rfl rfl (Or.inl rfl) ?_
              refine R_s (f' := (97, [some (vR 88), some (vI e), some (vI (s + (rd (A 100) (((48 * (F 21)) + (8 * x)) + 1)))), some (vI x), some (vI ((48 * (F 21)) + (8 * x))), some (vI 1)], [vI 0], LAY A F, 0, 0)) hc139 0 rfl trivial ?_
              refine R_if (t := 125) hc139 rfl rfl (fun (_ : 0 = 0) => ?_) (fun (z : ¬ (0 = 0)) => absurd (by decide) z)
              refine R_s (P := True) (f' := (126, [some (vR 88), some (vI e), some (vI (s + (rd (A 100) (((48 * (F 21)) + (8 * x)) + 1)))), some (vI x), some (vI ((48 * (F 21)) + (8 * x))), some (vI 1)], [vI 0], LAY A F, 0, 0)) hc139 1 rfl trivial ?_
              refine R_retz hc139 rfl rfl (Or.inl rfl) ⟨0, rfl, rfl, .inr ⟨rfl, fun z => z.1 i (by omega) ?_⟩⟩
              (try dsimp only)
              rw [← ex]
              unfold bAD
              have z := hNi (by omega)
              omega
            · refine R_s (P := True) (f' := (15, [some (vI (rd (A 100) (((48 * (F 21)) + (8 * x)) + 2))), some (vI 0), some (vI ((F 19) - 1))], [vI 1], LAY A F, 0, 0)) hc104 2 rfl trivial ?_
              refine R_retz hc104 rfl rfl (Or.inr rfl) ?_
              refine R_s (f' := (11, [some (vR 88), some (vI (rd (A 100) (((48 * (F 21)) + (8 * x)) + 2)))], [vI 1], LAY A F, 0, 0)) hc106 0 rfl trivial ?_
              refine R_retz hc106 rfl rfl (Or.inr rfl) ?_
              refine R_s (f' := (97, [some (vR 88), some (vI e), some (vI (s + (rd (A 100) (((48 * (F 21)) + (8 * x)) + 1)))), some (vI x), some (vI ((48 * (F 21)) + (8 * x))), some (vI 1)], [vI 1], LAY A F, 0, 0)) hc139 0 rfl trivial ?_
              refine R_if (t := 125) hc139 rfl rfl (fun (z : 1 = 0) => absurd z (by decide)) (fun (_ : ¬ (1 = 0)) => ?_)
              refine R_s (P := (0 ≤ (48 * (F 21)) + (8 * x) ∧ (48 * (F 21)) + (8 * x) < ((A 100).length : Int)) ∧ True) (f' := (108, [some (vR 88), some (vI e), some (vI (s + (rd (A 100) (((48 * (F 21)) + (8 * x)) + 1)))), some (vI x), some (vI ((48 * (F 21)) + (8 * x))), some (vI 1)], [vI 2, vI (rd (A 100) ((48 * (F 21)) + (8 * x)))], LAY A F, 0, 0)) hc139 5 rfl ⟨⟨by omega, by omega⟩, trivial⟩ ?_
              refine R_ic (t := 127) hc139 rfl rfl (fun (_ : ¬ rd (A 100) ((48 * (F 21)) + (8 * x)) = 2) => ?_) (fun (z : ¬ (¬ rd (A 100) ((48 * (F 21)) + (8 * x)) = 2)) => absurd (show ¬ rd (A 100) ((48 * (F 21)) + (8 * x)) = 2 by omega) z)
              refine R_s (P := inI (x + 1) ∧ True) (f' := (4, [some (vR 88), some (vI e), some (vI (s + (rd (A 100) (((48 * (F 21)) + (8 * x)) + 1)))), some (vI (x + 1)), some (vI ((48 * (F 21)) + (8 * x))), some (vI 1)], [], LAY A F, 0, 0)) hc139 2 rfl ⟨⟨by omega, by omega⟩, trivial⟩ ?_
              refine ih (i + 1) _ _ _ _ (by omega) ?_ (fun j hj => ?_) (by omega) (by omega)
              · simp only [sm]
                rw [← es, ← ex]
                split <;> omega
              · by_cases q : j = i
                · rw [q]
                  (try dsimp only)
                  rw [← ex]
                  unfold bAD
                  have z := hNi (by omega)
                  omega
                · exact hb j (by omega)
  refine R_s (P := True) (f' := (4, [some (vR 88), some (vI e), some (vI 0), some (vI 0), none, none], [], LAY A F, 0, 0)) hc139 4 rfl trivial ?_
  exact lp (n + 1) 0 _ _ _ _ rfl rfl (fun j hj => absurd hj (by omega)) (by omega) (by omega)

