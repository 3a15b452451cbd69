theorem run_Md {c : Int} {A A0 : Nat → List Int} {F F0 : Nat → Int} (hR : REL c A F) (e90 : A0 90 = A 3) (e91 : A0 91 = A 4) (e92 : A0 92 = A 5) (e93 : A0 93 = A 6) (e94 : A0 94 = A 94) (e96 : A0 96 = A 14) (e97 : A0 97 = A 15) (e98 : A0 98 = A 16) (e99 : A0 99 = A 99) (e100 : A0 100 = A 100) (f19 : F0 19 = F 3) (f20 : F0 20 = F 4) (f21 : F0 21 = F 0) {l109 l104 l105 l110 l111 l108 l107 l101 : List Int} (hl109 : l109.length = 30) (hl104 : l104.length = 30) (hl105 : l105.length = 30) (hl110 : l110.length = 30) (hl111 : l111.length = 30) (hl108 : l108.length = 30) (hl107 : l107.length = 6) (hl101 : l101.length = 38) {y v28 v29 v30 v31 : Int} (h0 : F 2 ≤ y) (h1 : y ≤ 600) {d : Nat} (hd : (d : Int) < F 0) (b101 : ∀ q : Nat, q < 38 → -1000000000000000 ≤ rd l101 q ∧ rd l101 q ≤ 1000000000000000) {n x : Int} {v4 v5 : Option AV} {post : Option AV → AG → Prop} (hk : ∀ (n109 n104 n105 n110 n111 n108 n107 n101 : List Int) (_ : n109.length = 30) (_ : n104.length = 30) (_ : n105.length = 30) (_ : n110.length = 30) (_ : n111.length = 30) (_ : n108.length = 30) (_ : n107.length = 6) (_ : n101.length = 38) (w28 w29 w30 w31 : Int) (v4 v5 : Option AV), (∀ p : Nat, p < 30 → rd n101 p = rd l101 p + if p < (F 3).toNat then gP A (u F 2 y) d p else 0) → (∀ h : Nat, h < 8 → rd n101 (30 + h) = rd l101 (30 + h) + gH A (u F 2 y) d h) → R 155 (56, [some (vR 88), some (vI n), some (vI x), some (vI ((d : Int) + 1)), v4, v5], [], LAY (u (u (u (u (u (u (u (u A0 109 n109) 104 n104) 105 n105) 110 n110) 111 n111) 108 n108) 107 n107) 101 n101) (u (u (u (u (u F0 18 y) 28 w28) 29 w29) 30 w30) 31 w31), 0, 0) post) : R 155 (64, [some (vR 88), some (vI n), some (vI x), some (vI (d : Int)), v4, v5], [], LAY (u (u (u (u (u (u (u (u A0 109 l109) 104 l104) 105 l105) 110 l110) 111 l111) 108 l108) 107 l107) 101 l101) (u (u (u (u (u F0 18 y) 28 v28) 29 v29) 30 v30) 31 v31), 0, 0) post := by
  have hRy := REL_y hR h0 h1
  have hn := R_n hR
  have hn30 := R_n30 hR
  have h6 := hR.2.2.2.2.1.1.2
  have hD := D_any hR d hd
  have he1 := hD.1.1
  have he2 := hD.1.2.1
  have hme : rd (A0 99) d = (((F (d + 8)).toNat : Nat) : Int) := by
    rw [e99]
    exact hD.2.2.2.2.1
  have h99 : (A0 99).length = 6 := by rw [e99]; exact hD.2.1
  have h100 : (A0 100).length = 288 := by rw [e100]; exact hD.2.2.1
  obtain ⟨so, te, tp, mg, pm, lo, hS⟩ := SPL_ex A (u F 2 y) (N_al A (u F 2 y)) (N_Q A (21 + 9 * d)) (F (d + 8)).toNat (N_Y A F d)
  have hg := SPL_g (A := A) (F := u F 2 y) (d := d) hS
  refine R_s (P := True) (f' := (66, [some (vR 88), some (vI n), some (vI x), some (vI (d : Int)), v4, v5], [vI (d : Int), vR 88], LAY (u (u (u (u (u (u (u (u A0 109 l109) 104 l104) 105 l105) 110 l110) 111 l111) 108 l108) 107 l107) 101 l101) (u (u (u (u (u F0 18 y) 28 v28) 29 v29) 30 v30) 31 v31), 0, 0)) hc155 2 rfl trivial ?_
  refine R_cv hc155 rfl rfl (l_worksR hRy (A1 := (u (u (u (u (u (u (u (u A0 109 l109) 104 l104) 105 l105) 110 l110) 111 l111) 108 l108) 107 l107) 101 l101)) (F1 := (u (u (u (u (u F0 18 y) 28 v28) 29 v29) 30 v30) 31 v31)) e90 e91 e92 e93 e94 e96 e97 e98 e99 e100 rfl f19 f20 hl104 hl105 hl107 hl108 hl109 hl110 hl111 hD.1 hD.2 (Y := N_Y A F d) rfl hS) (fun r G9 hp9 => ?_)
  obtain ⟨rfl, q104, q105, q107, q108, q109, q110, q111, ac, rfl, hq104, hq105, hq107, hq108, hq109, hq110, hq111, hac, z107, z108⟩ := hp9
  have z1 : ∀ p : Nat, p < (F 3).toNat → rd q108 p = gP A (u F 2 y) d p := fun p hp => by rw [← hg.1]; exact z108 p hp
  have z2 : ∀ j : Nat, j < (F (d + 8)).toNat → rd q107 j = gE A (u F 2 y) d j := fun j hj => by rw [← hg.2]; exact z107 j hj
  have z3 : ∀ h : Int, sm (pO (N_Q A (21 + 9 * d)) q107 h) (F (d + 8)).toNat = gH A (u F 2 y) d h := fun h => gH_eq (A := A) (F := u F 2 y) (d := d) z2
  refine R_s (f' := (69, [some (vR 88), some (vI n), some (vI x), some (vI (d : Int)), v4, v5], [], LAY (u (u (u (u (u (u (u (u A0 101 l101) 109 q109) 104 q104) 105 q105) 110 q110) 111 q111) 108 q108) 107 q107) (u (u (u (u (u F0 18 y) 28 (N_Y A F d)) 29 ac) 30 mg) 31 lo), 0, 0)) hc155 0 rfl trivial ?_
  refine R_s (P := True) (f' := (72, [some (vR 88), some (vI n), some (vI x), some (vI (d : Int)), some (vI 0), v5], [], LAY (u (u (u (u (u (u (u (u A0 101 l101) 109 q109) 104 q104) 105 q105) 110 q110) 111 q111) 108 q108) 107 q107) (u (u (u (u (u F0 18 y) 28 (N_Y A F d)) 29 ac) 30 mg) 31 lo), 0, 0)) hc155 2 rfl trivial ?_
  have lp : ∀ (mm i : Nat) (x2 : Int) (m : List Int), x2 = (i : Int) → m.length = 38 → (∀ p : Nat, p < 30 → rd m p = rd l101 p + if p < i then rd q108 p else 0) → (∀ h : Nat, h < 8 → rd m (30 + h) = rd l101 (30 + h)) → i ≤ (F 3).toNat → (F 3).toNat + 1 ≤ i + mm → R 155 (72, [some (vR 88), some (vI n), some (vI x), some (vI (d : Int)), some (vI x2), v5], [], LAY (u (u (u (u (u (u (u (u A0 109 q109) 104 q104) 105 q105) 110 q110) 111 q111) 108 q108) 107 q107) 101 m) (u (u (u (u (u F0 18 y) 28 (N_Y A F d)) 29 ac) 30 mg) 31 lo), 0, 0) post := by
    intro mm
    induction mm with
    | zero =>
      intro i x2 m ex2 hm1 hz hzh hi hmm
      exact absurd hmm (by omega)
    | succ mm ih =>
      intro i x2 m ex2 hm1 hz hzh hi hmm
      have g1 : i < 30 → rd m i = rd l101 i := fun q => by rw [hz i q, if_neg (by omega), Int.add_zero]
      have g2 := b101 i
      have g3 : i < (F 3).toNat → 0 ≤ rd q108 i ∧ rd q108 i ≤ 1000000 := fun q => by
        have q2 := gP_bd hRy d hd i q
        rw [z1 i q]
        exact q2
      rw [← ex2] at g1 g2 g3
      refine R_s (P := True) (f' := (78, [some (vR 88), some (vI n), some (vI x), some (vI (d : Int)), some (vI x2), v5], [vI (F0 19), vI x2], LAY (u (u (u (u (u (u (u (u A0 109 q109) 104 q104) 105 q105) 110 q110) 111 q111) 108 q108) 107 q107) 101 m) (u (u (u (u (u F0 18 y) 28 (N_Y A F d)) 29 ac) 30 mg) 31 lo), 0, 0)) hc155 3 rfl trivial ?_
      refine R_ic (t := 105) hc155 rfl rfl (fun (c1 : F0 19 ≤ x2) => ?_) (fun (c1 : ¬ (F0 19 ≤ x2)) => ?_)
      · refine R_s (P := True) (f' := (108, [some (vR 88), some (vI n), some (vI x), some (vI (d : Int)), some (vI 0), v5], [], LAY (u (u (u (u (u (u (u (u A0 109 q109) 104 q104) 105 q105) 110 q110) 111 q111) 108 q108) 107 q107) 101 m) (u (u (u (u (u F0 18 y) 28 (N_Y A F d)) 29 ac) 30 mg) 31 lo), 0, 0)) hc155 2 rfl trivial ?_
        have lp2 : ∀ (mj j : Nat) (y2 : Int) (v5 : Option AV) (kk : List Int), y2 = (j : Int) → kk.length = 38 → (∀ p : Nat, p < 30 → rd kk p = rd m p) → (∀ h : Nat, h < 8 → rd kk (30 + h) = rd l101 (30 + h) + sm (pO (N_Q A (21 + 9 * d)) q107 h) j) → j ≤ (F (d + 8)).toNat → (F (d + 8)).toNat + 1 ≤ j + mj → R 155 (108, [some (vR 88), some (vI n), some (vI x), some (vI (d : Int)), some (vI y2), v5], [], LAY (u (u (u (u (u (u (u (u A0 109 q109) 104 q104) 105 q105) 110 q110) 111 q111) 108 q108) 107 q107) 101 kk) (u (u (u (u (u F0 18 y) 28 (N_Y A F d)) 29 ac) 30 mg) 31 lo), 0, 0) post := by
          intro mj
          induction mj with
          | zero =>
            intro j y2 v5 kk ey2 hk1 hx2 hy2 hj hmj
            exact absurd hmj (by omega)
          | succ mj ihj =>
            intro j y2 v5 kk ey2 hk1 hx2 hy2 hj hmj
            have m0 : j < (F (d + 8)).toNat → rd (A0 100) (48 * d + 8 * y2) = rd ((N_Q A (21 + 9 * d)) 0) j := fun q => by rw [e100, ey2]; exact (hD.2.2.2.2.2 j q).1
            have m3 : j < (F (d + 8)).toNat → rd ((N_Q A (21 + 9 * d)) 0) j = 0 ∨ rd ((N_Q A (21 + 9 * d)) 0) j = 3 → rd (A0 100) (48 * d + 8 * y2 + 3) = rd ((N_Q A (21 + 9 * d)) 3) j ∧ 0 ≤ rd ((N_Q A (21 + 9 * d)) 3) j ∧ rd ((N_Q A (21 + 9 * d)) 3) j < 8 := fun q q1 => by
              rw [e100, ey2]
              exact ⟨(hD.2.2.2.2.2 j q).2.2.2.1 q1, (hD.1.2.2.2 j q).2.2.2.2.2.1 q1⟩
            have g7 : j < (F (d + 8)).toNat → -20000000 ≤ rd q107 y2 ∧ rd q107 y2 ≤ 20000000 := fun q => by
              have q2 := gE_bd hRy d hd j q
              rw [ey2, z2 j q]
              exact q2
            have gk : 0 ≤ rd ((N_Q A (21 + 9 * d)) 3) j → rd ((N_Q A (21 + 9 * d)) 3) j < 8 → -1000000200000000 ≤ rd kk (30 + rd ((N_Q A (21 + 9 * d)) 3) j) ∧ rd kk (30 + rd ((N_Q A (21 + 9 * d)) 3) j) ≤ 1000000200000000 := fun q1 q2 => by
              have z := hy2 (rd ((N_Q A (21 + 9 * d)) 3) j).toNat (by omega)
              have z4 := b101 (30 + (rd ((N_Q A (21 + 9 * d)) 3) j).toNat) (by omega)
              rw [show (((rd ((N_Q A (21 + 9 * d)) 3) j).toNat : Nat) : Int) = rd ((N_Q A (21 + 9 * d)) 3) j by omega] at z
              rw [show ((30 + (rd ((N_Q A (21 + 9 * d)) 3) j).toNat : Nat) : Int) = 30 + rd ((N_Q A (21 + 9 * d)) 3) j by omega] at z4
              have z5 := sm_bd2 (g := pO (N_Q A (21 + 9 * d)) q107 (rd ((N_Q A (21 + 9 * d)) 3) j)) (b := 20000000) j (fun i hi => by
                have z6 := gE_bd hRy d hd i (by show i < (F (d + 8)).toNat; omega)
                have z7 := z2 i (by omega)
                unfold pO
                split <;> omega)
              omega
            refine R_s (P := (0 ≤ (d : Int) ∧ (d : Int) < ((A0 99).length : Int)) ∧ True) (f' := (116, [some (vR 88), some (vI n), some (vI x), some (vI (d : Int)), some (vI y2), v5], [vI (rd (A0 99) (d : Int)), vI y2], LAY (u (u (u (u (u (u (u (u A0 109 q109) 104 q104) 105 q105) 110 q110) 111 q111) 108 q108) 107 q107) 101 kk) (u (u (u (u (u F0 18 y) 28 (N_Y A F d)) 29 ac) 30 mg) 31 lo), 0, 0)) hc155 5 rfl ⟨⟨by omega, by omega⟩, trivial⟩ ?_
            refine R_ic (t := 186) hc155 rfl rfl (fun (c1 : rd (A0 99) (d : Int) ≤ y2) => ?_) (fun (c1 : ¬ (rd (A0 99) (d : Int) ≤ y2)) => ?_)
            · refine R_s (P := inI ((d : Int) + 1) ∧ True) (f' := (56, [some (vR 88), some (vI n), some (vI x), some (vI ((d : Int) + 1)), some (vI y2), v5], [], LAY (u (u (u (u (u (u (u (u A0 109 q109) 104 q104) 105 q105) 110 q110) 111 q111) 108 q108) 107 q107) 101 kk) (u (u (u (u (u F0 18 y) 28 (N_Y A F d)) 29 ac) 30 mg) 31 lo), 0, 0)) hc155 2 rfl ⟨⟨by omega, by omega⟩, trivial⟩ ?_
              refine R_s (P := True) (f' := (56, [some (vR 88), some (vI n), some (vI x), some (vI ((d : Int) + 1)), some (vI y2), v5], [], LAY (u (u (u (u (u (u (u (u A0 109 q109) 104 q104) 105 q105) 110 q110) 111 q111) 108 q108) 107 q107) 101 kk) (u (u (u (u (u F0 18 y) 28 (N_Y A F d)) 29 ac) 30 mg) 31 lo), 0, 0)) hc155 0 rfl trivial ?_
              refine hk _ _ _ _ _ _ _ _ hq109 hq104 hq105 hq110 hq111 hq108 hq107 hk1 _ _ _ _ _ _ (fun p hp => ?_) (fun h hh => ?_)
              · rw [hx2 p hp, hz p hp, show i = (F 3).toNat by omega]
                by_cases q : p < (F 3).toNat
                · rw [if_pos q, if_pos q, z1 p q]
                · rw [if_neg q, if_neg q]
              · rw [hy2 h hh, show j = (F (d + 8)).toNat by omega, z3]
            · refine R_s (P := inI (48 * (d : Int)) ∧ inI (8 * y2) ∧ inI ((48 * (d : Int)) + (8 * y2)) ∧ (0 ≤ (48 * (d : Int)) + (8 * y2) ∧ (48 * (d : Int)) + (8 * y2) < ((A0 100).length : Int)) ∧ True) (f' := (138, [some (vR 88), some (vI n), some (vI x), some (vI (d : Int)), some (vI y2), some (vI ((48 * (d : Int)) + (8 * y2)))], [vI (rd (A0 100) ((48 * (d : Int)) + (8 * y2)))], LAY (u (u (u (u (u (u (u (u A0 109 q109) 104 q104) 105 q105) 110 q110) 111 q111) 108 q108) 107 q107) 101 kk) (u (u (u (u (u F0 18 y) 28 (N_Y A F d)) 29 ac) 30 mg) 31 lo), 0, 0)) hc155 12 rfl ⟨⟨by omega, by omega⟩, ⟨by omega, by omega⟩, ⟨by omega, by omega⟩, ⟨by omega, by omega⟩, trivial⟩ ?_
              refine R_if (t := 152) hc155 rfl rfl (fun (c2 : rd (A0 100) ((48 * (d : Int)) + (8 * y2)) = 0) => ?_) (fun (c2 : ¬ (rd (A0 100) ((48 * (d : Int)) + (8 * y2)) = 0)) => ?_)
              · refine R_s (P := inI (((48 * (d : Int)) + (8 * y2)) + 3) ∧ (0 ≤ ((48 * (d : Int)) + (8 * y2)) + 3 ∧ ((48 * (d : Int)) + (8 * y2)) + 3 < ((A0 100).length : Int)) ∧ inI (30 + (rd (A0 100) (((48 * (d : Int)) + (8 * y2)) + 3))) ∧ (0 ≤ 30 + (rd (A0 100) (((48 * (d : Int)) + (8 * y2)) + 3)) ∧ 30 + (rd (A0 100) (((48 * (d : Int)) + (8 * y2)) + 3)) < ((kk).length : Int)) ∧ (0 ≤ y2 ∧ y2 < ((q107).length : Int)) ∧ inL ((rd kk (30 + (rd (A0 100) (((48 * (d : Int)) + (8 * y2)) + 3)))) + (rd q107 y2)) ∧ (0 ≤ 30 + (rd (A0 100) (((48 * (d : Int)) + (8 * y2)) + 3)) ∧ 30 + (rd (A0 100) (((48 * (d : Int)) + (8 * y2)) + 3)) < ((kk).length : Int)) ∧ inI (y2 + 1) ∧ True) (f' := (108, [some (vR 88), some (vI n), some (vI x), some (vI (d : Int)), some (vI (y2 + 1)), some (vI ((48 * (d : Int)) + (8 * y2)))], [], LAY (u (u (u (u (u (u (u (u A0 109 q109) 104 q104) 105 q105) 110 q110) 111 q111) 108 q108) 107 q107) 101 (wr kk (30 + (rd (A0 100) (((48 * (d : Int)) + (8 * y2)) + 3))) ((rd kk (30 + (rd (A0 100) (((48 * (d : Int)) + (8 * y2)) + 3)))) + (rd q107 y2)))) (u (u (u (u (u F0 18 y) 28 (N_Y A F d)) 29 ac) 30 mg) 31 lo), 0, 0)) hc155 21 rfl ⟨⟨by omega, by omega⟩, ⟨by omega, by omega⟩, (by have z := m3 (by omega) (by omega); (try unfold inI); omega), (by have z := m3 (by omega) (by omega); (try unfold inI); omega), ⟨by omega, by omega⟩, (by have z := m3 (by omega) (by omega); rw [z.1]; have z2 := gk z.2.1 z.2.2; have z3 := g7 (by omega); unfold inL; omega), (by have z := m3 (by omega) (by omega); (try unfold inI); omega), ⟨by omega, by omega⟩, trivial⟩ ?_
                refine R_s (P := True) (f' := (108, [some (vR 88), some (vI n), some (vI x), some (vI (d : Int)), some (vI (y2 + 1)), some (vI ((48 * (d : Int)) + (8 * y2)))], [], LAY (u (u (u (u (u (u (u (u A0 109 q109) 104 q104) 105 q105) 110 q110) 111 q111) 108 q108) 107 q107) 101 (wr kk (30 + (rd (A0 100) (((48 * (d : Int)) + (8 * y2)) + 3))) ((rd kk (30 + (rd (A0 100) (((48 * (d : Int)) + (8 * y2)) + 3)))) + (rd q107 y2)))) (u (u (u (u (u F0 18 y) 28 (N_Y A F d)) 29 ac) 30 mg) 31 lo), 0, 0)) hc155 0 rfl trivial ?_
                have a0 : rd ((N_Q A (21 + 9 * d)) 0) j = 0 ∨ rd ((N_Q A (21 + 9 * d)) 0) j = 3 := by omega
                have a3 := m3 (by omega) a0
                refine ihj (j + 1) _ _ _ (by omega) (by rw [wr_len]; exact hk1) (fun p hp => ?_) (fun h hh => ?_) (by omega) (by omega)
                · rw [a3.1, rd_wr (by omega) (by omega) (by omega), if_neg (by omega)]
                  exact hx2 p hp
                · rw [a3.1, rd_wr (by omega) (by omega) (by omega)]
                  simp only [sm]
                  by_cases e9 : (h : Int) = rd ((N_Q A (21 + 9 * d)) 3) j
                  · rw [if_pos (by omega), show pO (N_Q A (21 + 9 * d)) q107 h j = rd q107 j by (unfold pO; rw [if_pos ⟨a0, e9.symm⟩]), ← e9, hy2 h hh, ey2]
                    omega
                  · rw [if_neg (by omega), show pO (N_Q A (21 + 9 * d)) q107 h j = 0 by (unfold pO; rw [if_neg (fun z => e9 z.2.symm)]), hy2 h hh]
                    omega
              · refine R_s (P := (0 ≤ (48 * (d : Int)) + (8 * y2) ∧ (48 * (d : Int)) + (8 * y2) < ((A0 100).length : Int)) ∧ True) (f' := (149, [some (vR 88), some (vI n), some (vI x), some (vI (d : Int)), some (vI y2), some (vI ((48 * (d : Int)) + (8 * y2)))], [vI 3, vI (rd (A0 100) ((48 * (d : Int)) + (8 * y2)))], LAY (u (u (u (u (u (u (u (u A0 109 q109) 104 q104) 105 q105) 110 q110) 111 q111) 108 q108) 107 q107) 101 kk) (u (u (u (u (u F0 18 y) 28 (N_Y A F d)) 29 ac) 30 mg) 31 lo), 0, 0)) hc155 5 rfl ⟨⟨by omega, by omega⟩, trivial⟩ ?_
                refine R_ic (t := 180) hc155 rfl rfl (fun (c3 : ¬ rd (A0 100) ((48 * (d : Int)) + (8 * y2)) = 3) => ?_) (fun (c3 : ¬ (¬ rd (A0 100) ((48 * (d : Int)) + (8 * y2)) = 3)) => ?_)
                · refine R_s (P := inI (y2 + 1) ∧ True) (f' := (108, [some (vR 88), some (vI n), some (vI x), some (vI (d : Int)), some (vI (y2 + 1)), some (vI ((48 * (d : Int)) + (8 * y2)))], [], LAY (u (u (u (u (u (u (u (u A0 109 q109) 104 q104) 105 q105) 110 q110) 111 q111) 108 q108) 107 q107) 101 kk) (u (u (u (u (u F0 18 y) 28 (N_Y A F d)) 29 ac) 30 mg) 31 lo), 0, 0)) hc155 2 rfl ⟨⟨by omega, by omega⟩, trivial⟩ ?_
                  refine R_s (P := True) (f' := (108, [some (vR 88), some (vI n), some (vI x), some (vI (d : Int)), some (vI (y2 + 1)), some (vI ((48 * (d : Int)) + (8 * y2)))], [], LAY (u (u (u (u (u (u (u (u A0 109 q109) 104 q104) 105 q105) 110 q110) 111 q111) 108 q108) 107 q107) 101 kk) (u (u (u (u (u F0 18 y) 28 (N_Y A F d)) 29 ac) 30 mg) 31 lo), 0, 0)) hc155 0 rfl trivial ?_
                  refine ihj (j + 1) _ _ _ (by omega) hk1 hx2 (fun h hh => ?_) (by omega) (by omega)
                  simp only [sm]
                  rw [show pO (N_Q A (21 + 9 * d)) q107 h j = 0 by (unfold pO; rw [if_neg (fun z => by omega)]), hy2 h hh]
                  omega
                · refine R_s (P := inI (((48 * (d : Int)) + (8 * y2)) + 3) ∧ (0 ≤ ((48 * (d : Int)) + (8 * y2)) + 3 ∧ ((48 * (d : Int)) + (8 * y2)) + 3 < ((A0 100).length : Int)) ∧ inI (30 + (rd (A0 100) (((48 * (d : Int)) + (8 * y2)) + 3))) ∧ (0 ≤ 30 + (rd (A0 100) (((48 * (d : Int)) + (8 * y2)) + 3)) ∧ 30 + (rd (A0 100) (((48 * (d : Int)) + (8 * y2)) + 3)) < ((kk).length : Int)) ∧ (0 ≤ y2 ∧ y2 < ((q107).length : Int)) ∧ inL ((rd kk (30 + (rd (A0 100) (((48 * (d : Int)) + (8 * y2)) + 3)))) + (rd q107 y2)) ∧ (0 ≤ 30 + (rd (A0 100) (((48 * (d : Int)) + (8 * y2)) + 3)) ∧ 30 + (rd (A0 100) (((48 * (d : Int)) + (8 * y2)) + 3)) < ((kk).length : Int)) ∧ inI (y2 + 1) ∧ True) (f' := (108, [some (vR 88), some (vI n), some (vI x), some (vI (d : Int)), some (vI (y2 + 1)), some (vI ((48 * (d : Int)) + (8 * y2)))], [], LAY (u (u (u (u (u (u (u (u A0 109 q109) 104 q104) 105 q105) 110 q110) 111 q111) 108 q108) 107 q107) 101 (wr kk (30 + (rd (A0 100) (((48 * (d : Int)) + (8 * y2)) + 3))) ((rd kk (30 + (rd (A0 100) (((48 * (d : Int)) + (8 * y2)) + 3)))) + (rd q107 y2)))) (u (u (u (u (u F0 18 y) 28 (N_Y A F d)) 29 ac) 30 mg) 31 lo), 0, 0)) hc155 21 rfl ⟨⟨by omega, by omega⟩, ⟨by omega, by omega⟩, (by have z := m3 (by omega) (by omega); (try unfold inI); omega), (by have z := m3 (by omega) (by omega); (try unfold inI); omega), ⟨by omega, by omega⟩, (by have z := m3 (by omega) (by omega); rw [z.1]; have z2 := gk z.2.1 z.2.2; have z3 := g7 (by omega); unfold inL; omega), (by have z := m3 (by omega) (by omega); (try unfold inI); omega), ⟨by omega, by omega⟩, trivial⟩ ?_
                  refine R_s (P := True) (f' := (108, [some (vR 88), some (vI n), some (vI x), some (vI (d : Int)), some (vI (y2 + 1)), some (vI ((48 * (d : Int)) + (8 * y2)))], [], LAY (u (u (u (u (u (u (u (u A0 109 q109) 104 q104) 105 q105) 110 q110) 111 q111) 108 q108) 107 q107) 101 (wr kk (30 + (rd (A0 100) (((48 * (d : Int)) + (8 * y2)) + 3))) ((rd kk (30 + (rd (A0 100) (((48 * (d : Int)) + (8 * y2)) + 3)))) + (rd q107 y2)))) (u (u (u (u (u F0 18 y) 28 (N_Y A F d)) 29 ac) 30 mg) 31 lo), 0, 0)) hc155 0 rfl trivial ?_
                  have a0 : rd ((N_Q A (21 + 9 * d)) 0) j = 0 ∨ rd ((N_Q A (21 + 9 * d)) 0) j = 3 := by omega
                  have a3 := m3 (by omega) a0
                  refine ihj (j + 1) _ _ _ (by omega) (by rw [wr_len]; exact hk1) (fun p hp => ?_) (fun h hh => ?_) (by omega) (by omega)
                  · rw [a3.1, rd_wr (by omega) (by omega) (by omega), if_neg (by omega)]
                    exact hx2 p hp
                  · rw [a3.1, rd_wr (by omega) (by omega) (by omega)]
                    simp only [sm]
                    by_cases e9 : (h : Int) = rd ((N_Q A (21 + 9 * d)) 3) j
                    · rw [if_pos (by omega), show pO (N_Q A (21 + 9 * d)) q107 h j = rd q107 j by (unfold pO; rw [if_pos ⟨a0, e9.symm⟩]), ← e9, hy2 h hh, ey2]
                      omega
                    · rw [if_neg (by omega), show pO (N_Q A (21 + 9 * d)) q107 h j = 0 by (unfold pO; rw [if_neg (fun z => e9 z.2.symm)]), hy2 h hh]
                      omega
        refine R_s (P := True) (f' := (108, [some (vR 88), some (vI n), some (vI x), some (vI (d : Int)), some (vI 0), v5], [], LAY (u (u (u (u (u (u (u (u A0 109 q109) 104 q104) 105 q105) 110 q110) 111 q111) 108 q108) 107 q107) 101 m) (u (u (u (u (u F0 18 y) 28 (N_Y A F d)) 29 ac) 30 mg) 31 lo), 0, 0)) hc155 0 rfl trivial ?_
        exact lp2 ((F (d + 8)).toNat + 1) 0 _ _ _ rfl hm1 (fun p _ => rfl) (fun h hh => by simp only [sm]; rw [hzh h hh]; omega) (by omega) (by omega)
      · refine R_s (P := (0 ≤ x2 ∧ x2 < ((m).length : Int)) ∧ (0 ≤ x2 ∧ x2 < ((q108).length : Int)) ∧ inL ((rd m x2) + (rd q108 x2)) ∧ (0 ≤ x2 ∧ x2 < ((m).length : Int)) ∧ inI (x2 + 1) ∧ True) (f' := (72, [some (vR 88), some (vI n), some (vI x), some (vI (d : Int)), some (vI (x2 + 1)), v5], [], LAY (u (u (u (u (u (u (u (u A0 109 q109) 104 q104) 105 q105) 110 q110) 111 q111) 108 q108) 107 q107) 101 (wr m x2 ((rd m x2) + (rd q108 x2)))) (u (u (u (u (u F0 18 y) 28 (N_Y A F d)) 29 ac) 30 mg) 31 lo), 0, 0)) hc155 14 rfl ⟨⟨by omega, by omega⟩, ⟨by omega, by omega⟩, ⟨by omega, by omega⟩, ⟨by omega, by omega⟩, ⟨by omega, by omega⟩, trivial⟩ ?_
        refine R_s (P := True) (f' := (72, [some (vR 88), some (vI n), some (vI x), some (vI (d : Int)), some (vI (x2 + 1)), v5], [], LAY (u (u (u (u (u (u (u (u A0 109 q109) 104 q104) 105 q105) 110 q110) 111 q111) 108 q108) 107 q107) 101 (wr m x2 ((rd m x2) + (rd q108 x2)))) (u (u (u (u (u F0 18 y) 28 (N_Y A F d)) 29 ac) 30 mg) 31 lo), 0, 0)) hc155 0 rfl trivial ?_
        have g11 := g1 (by omega)
        refine ih (i + 1) _ _ (by omega) (by rw [wr_len]; exact hm1) (fun p hp => ?_) (fun h hh => ?_) (by omega) (by omega)
        · rw [rd_wr (by omega) (by omega) (by omega)]
          by_cases e9 : (p : Int) = x2
          · rw [if_pos e9, g11, e9, if_pos (by omega)]
          · rw [if_neg e9, hz p hp]
            by_cases e3 : p < i
            · rw [if_pos e3, if_pos (by omega)]
            · rw [if_neg e3, if_neg (by omega)]
        · rw [rd_wr (by omega) (by omega) (by omega), if_neg (by omega)]
          exact hzh h hh
  refine R_s (P := True) (f' := (72, [some (vR 88), some (vI n), some (vI x), some (vI (d : Int)), some (vI 0), v5], [], LAY (u (u (u (u (u (u (u (u A0 109 q109) 104 q104) 105 q105) 110 q110) 111 q111) 108 q108) 107 q107) 101 l101) (u (u (u (u (u F0 18 y) 28 (N_Y A F d)) 29 ac) 30 mg) 31 lo), 0, 0)) hc155 0 rfl trivial ?_
  exact lp ((F 3).toNat + 1) 0 _ _ rfl hl101 (fun p hp => by rw [if_neg (by omega), Int.add_zero]) (fun h _ => rfl) (by omega) (by omega)

theorem run_M {c : Int} {A A0 : Nat → List Int} {F F0 : Nat → Int} (hR : REL c A F) (e90 : A0 90 = A 3) (e91 : A0 91 = A 4) (e92 : A0 92 = A 5) (e93 : A0 93 = A 6) (e94 : A0 94 = A 94) (e96 : A0 96 = A 14) (e97 : A0 97 = A 15) (e98 : A0 98 = A 16) (e99 : A0 99 = A 99) (e100 : A0 100 = A 100) (f19 : F0 19 = F 3) (f20 : F0 20 = F 4) (f21 : F0 21 = F 0) (f18 : F0 18 = F 2) (e101 : A0 101 = A 101) (g109 : (A0 109).length = 30) (g104 : (A0 104).length = 30) (g105 : (A0 105).length = 30) (g110 : (A0 110).length = 30) (g111 : (A0 111).length = 30) (g108 : (A0 108).length = 30) (g107 : (A0 107).length = 6) (g101 : (A0 101).length = 38) {n : Int} (h0 : 1 ≤ n) (h1 : F 2 + n ≤ 600) {post : Option AV → AG → Prop} (hk : ∀ (x : Int) (v3 v4 v5 : Option AV) (l109 l104 l105 l110 l111 l108 l107 l101 : List Int) (_ : l109.length = 30) (_ : l104.length = 30) (_ : l105.length = 30) (_ : l110.length = 30) (_ : l111.length = 30) (_ : l108.length = 30) (_ : l107.length = 6) (_ : l101.length = 38) (v28 v29 v30 v31 : Int), (∀ p : Nat, p < 30 → rd l101 p = aP A F n.toNat p) → (∀ h : Nat, h < 8 → rd l101 (30 + h) = aH A F n.toNat h) → R 155 (208, [some (vR 88), some (vI n), some (vI x), v3, v4, v5], [], LAY (u (u (u (u (u (u (u (u A0 109 l109) 104 l104) 105 l105) 110 l110) 111 l111) 108 l108) 107 l107) 101 l101) (u (u (u (u (u F0 18 (F 2 + n)) 28 v28) 29 v29) 30 v30) 31 v31), 0, 0) post) : R 155 (49, [some (vR 88), some (vI n), some (vI 0), none, none, none], [], LAY A0 F0, 0, 0) post := by
  have hAC := hR.2.2.2.2.2.2.2.1
  have hNO := hR.2.2.2.2.2.2.1
  have hdc := hR.2.2.2.2.1.1
  have lp : ∀ (m i : Nat) (x : Int) (y : Int) (v3 : Option AV) (v4 : Option AV) (v5 : Option AV) (l109 : List Int) (l104 : List Int) (l105 : List Int) (l110 : List Int) (l111 : List Int) (l108 : List Int) (l107 : List Int) (l101 : List Int) (v28 : Int) (v29 : Int) (v30 : Int) (v31 : Int), x = (i : Int) → y = F 2 + i → l109.length = 30 → l104.length = 30 → l105.length = 30 → l110.length = 30 → l111.length = 30 → l108.length = 30 → l107.length = 6 → l101.length = 38 → (∀ p : Nat, p < 30 → rd l101 p = aP A F i p) → (∀ h : Nat, h < 8 → rd l101 (30 + h) = aH A F i h) → i ≤ n.toNat → n.toNat + 1 ≤ i + m → R 155 (49, [some (vR 88), some (vI n), some (vI x), v3, v4, v5], [], LAY (u (u (u (u (u (u (u (u A0 109 l109) 104 l104) 105 l105) 110 l110) 111 l111) 108 l108) 107 l107) 101 l101) (u (u (u (u (u F0 18 y) 28 v28) 29 v29) 30 v30) 31 v31), 0, 0) post := by
    intro m
    induction m with
    | zero =>
      intro i x y v3 v4 v5 l109 l104 l105 l110 l111 l108 l107 l101 v28 v29 v30 v31 ex ey hl109 hl104 hl105 hl110 hl111 hl108 hl107 hl101 hP hH hi hm
      exact absurd hm (by omega)
    | succ m ih =>
      intro i x y v3 v4 v5 l109 l104 l105 l110 l111 l108 l107 l101 v28 v29 v30 v31 ex ey hl109 hl104 hl105 hl110 hl111 hl108 hl107 hl101 hP hH hi hm
      have hm1 : (F 2 + i) * 1000000000 ≤ 601 * 1000000000 := Int.mul_le_mul_of_nonneg_right (by omega) (by decide)
      have gl : ∀ q : Nat, q < 38 → -900000000000000 ≤ rd l101 q ∧ rd l101 q ≤ 900000000000000 := fun q hq => by
        by_cases q1 : q < 30
        · have q2 := aP_bd hR i (by omega) q q1
          rw [hP q q1]
          omega
        · have q2 := aH_bd hR i (by omega) (q - 30) (by omega)
          have q3 := hH (q - 30) (by omega)
          rw [show (30 : Int) + ((q - 30 : Nat) : Int) = q by omega] at q3
          rw [q3]
          omega
      refine R_s (P := True) (f' := (51, [some (vR 88), some (vI n), some (vI x), v3, v4, v5], [vI n, vI x], LAY (u (u (u (u (u (u (u (u A0 109 l109) 104 l104) 105 l105) 110 l110) 111 l111) 108 l108) 107 l107) 101 l101) (u (u (u (u (u F0 18 y) 28 v28) 29 v29) 30 v30) 31 v31), 0, 0)) hc155 2 rfl trivial ?_
      refine R_ic (t := 208) hc155 rfl rfl (fun (c1 : n ≤ x) => ?_) (fun (c1 : ¬ (n ≤ x)) => ?_)
      · have e9 : y = F 2 + n := by omega
        have e8 : i = n.toNat := by omega
        rw [e9]
        rw [e8] at hP hH
        exact hk x v3 v4 v5 l109 l104 l105 l110 l111 l108 l107 l101 hl109 hl104 hl105 hl110 hl111 hl108 hl107 hl101 v28 v29 v30 v31 hP hH
      · refine R_s (P := True) (f' := (56, [some (vR 88), some (vI n), some (vI x), some (vI 0), v4, v5], [], LAY (u (u (u (u (u (u (u (u A0 109 l109) 104 l104) 105 l105) 110 l110) 111 l111) 108 l108) 107 l107) 101 l101) (u (u (u (u (u F0 18 y) 28 v28) 29 v29) 30 v30) 31 v31), 0, 0)) hc155 2 rfl trivial ?_
        have lp2 : ∀ (mj j : Nat) (x3 : Int) (v4 : Option AV) (v5 : Option AV) (m109 : List Int) (m104 : List Int) (m105 : List Int) (m110 : List Int) (m111 : List Int) (m108 : List Int) (m107 : List Int) (m101 : List Int) (w28 : Int) (w29 : Int) (w30 : Int) (w31 : Int), x3 = (j : Int) → m109.length = 30 → m104.length = 30 → m105.length = 30 → m110.length = 30 → m111.length = 30 → m108.length = 30 → m107.length = 6 → m101.length = 38 → (∀ p : Nat, p < 30 → rd m101 p = rd l101 p + if p < (F 3).toNat then yP A F y j p else 0) → (∀ h : Nat, h < 8 → rd m101 (30 + h) = rd l101 (30 + h) + yH A F y j h) → j ≤ (F 0).toNat → (F 0).toNat + 1 ≤ j + mj → R 155 (56, [some (vR 88), some (vI n), some (vI x), some (vI x3), v4, v5], [], LAY (u (u (u (u (u (u (u (u A0 109 m109) 104 m104) 105 m105) 110 m110) 111 m111) 108 m108) 107 m107) 101 m101) (u (u (u (u (u F0 18 y) 28 w28) 29 w29) 30 w30) 31 w31), 0, 0) post := by
          intro mj
          induction mj with
          | zero =>
            intro j x3 v4 v5 m109 m104 m105 m110 m111 m108 m107 m101 w28 w29 w30 w31 ex3 hm109 hm104 hm105 hm110 hm111 hm108 hm107 hm101 hP2 hH2 hj hmj
            exact absurd hmj (by omega)
          | succ mj ihj =>
            intro j x3 v4 v5 m109 m104 m105 m110 m111 m108 m107 m101 w28 w29 w30 w31 ex3 hm109 hm104 hm105 hm110 hm111 hm108 hm107 hm101 hP2 hH2 hj hmj
            refine R_s (P := True) (f' := (61, [some (vR 88), some (vI n), some (vI x), some (vI x3), v4, v5], [vI (F0 21), vI x3], LAY (u (u (u (u (u (u (u (u A0 109 m109) 104 m104) 105 m105) 110 m110) 111 m111) 108 m108) 107 m107) 101 m101) (u (u (u (u (u F0 18 y) 28 w28) 29 w29) 30 w30) 31 w31), 0, 0)) hc155 3 rfl trivial ?_
            refine R_ic (t := 192) hc155 rfl rfl (fun (c1 : F0 21 ≤ x3) => ?_) (fun (c1 : ¬ (F0 21 ≤ x3)) => ?_)
            · refine R_s (P := inI (y + 1) ∧ inI (x + 1) ∧ True) (f' := (49, [some (vR 88), some (vI n), some (vI (x + 1)), some (vI x3), v4, v5], [], LAY (u (u (u (u (u (u (u (u A0 109 m109) 104 m104) 105 m105) 110 m110) 111 m111) 108 m108) 107 m107) 101 m101) (u (u (u (u (u F0 28 w28) 29 w29) 30 w30) 31 w31) 18 (y + 1)), 0, 0)) hc155 8 rfl ⟨⟨by omega, by omega⟩, ⟨by omega, by omega⟩, trivial⟩ ?_
              refine R_s (P := True) (f' := (49, [some (vR 88), some (vI n), some (vI (x + 1)), some (vI x3), v4, v5], [], LAY (u (u (u (u (u (u (u (u A0 109 m109) 104 m104) 105 m105) 110 m110) 111 m111) 108 m108) 107 m107) 101 m101) (u (u (u (u (u F0 18 (y + 1)) 28 w28) 29 w29) 30 w30) 31 w31), 0, 0)) hc155 0 rfl trivial ?_
              refine ih (i + 1) _ _ _ _ _ _ _ _ _ _ _ _ _ _ _ _ _ (by omega) (by omega) hm109 hm104 hm105 hm110 hm111 hm108 hm107 hm101 (fun p hp => ?_) (fun h hh => ?_) (by omega) (by omega)
              · rw [hP2 p hp, hP p hp, show j = (F 0).toNat by omega, ey]
                unfold aP
                by_cases q : p < (F 3).toNat
                · rw [if_pos q, if_pos q, if_pos q]
                  simp only [sm]
                  omega
                · rw [if_neg q, if_neg q, if_neg q]
                  omega
              · rw [hH2 h hh, hH h hh, show j = (F 0).toNat by omega, ey]
                unfold aH
                simp only [sm]
                omega
            · have gm : ∀ q : Nat, q < 38 → -1000000000000000 ≤ rd m101 q ∧ rd m101 q ≤ 1000000000000000 := fun q hq => by
                have q0 := gl q hq
                by_cases q1 : q < 30
                · rw [hP2 q q1]
                  split
                  · rename_i q2
                    have q3 := yP_bd hR (y := y) (by omega) (by omega) (D := j) (by omega) q q2
                    omega
                  · omega
                · have q3 := hH2 (q - 30) (by omega)
                  have q4 := yH_bd hR (y := y) (by omega) (by omega) (D := j) (by omega) ((q - 30 : Nat) : Int)
                  rw [show (30 : Int) + ((q - 30 : Nat) : Int) = q by omega] at q3
                  rw [q3]
                  omega
              rw [ex3]
              refine run_Md hR e90 e91 e92 e93 e94 e96 e97 e98 e99 e100 f19 f20 f21 hm109 hm104 hm105 hm110 hm111 hm108 hm107 hm101 (by omega) (by omega) (d := j) (by omega) gm (fun n109 n104 n105 n110 n111 n108 n107 n101 hn109 hn104 hn105 hn110 hn111 hn108 hn107 hn101 u28 u29 u30 u31 v4 v5 zP zH => ?_)
              refine ihj (j + 1) _ _ _ _ _ _ _ _ _ _ _ _ _ _ _ (by omega) hn109 hn104 hn105 hn110 hn111 hn108 hn107 hn101 (fun p hp => ?_) (fun h hh => ?_) (by omega) (by omega)
              · rw [zP p hp, hP2 p hp]
                simp only [yP, sm]
                by_cases q : p < (F 3).toNat
                · rw [if_pos q, if_pos q, if_pos q]
                  omega
                · rw [if_neg q, if_neg q, if_neg q]
                  omega
              · rw [zH h hh, hH2 h hh]
                simp only [yH, sm]
                omega
        refine R_s (P := True) (f' := (56, [some (vR 88), some (vI n), some (vI x), some (vI 0), v4, v5], [], LAY (u (u (u (u (u (u (u (u A0 109 l109) 104 l104) 105 l105) 110 l110) 111 l111) 108 l108) 107 l107) 101 l101) (u (u (u (u (u F0 18 y) 28 v28) 29 v29) 30 v30) 31 v31), 0, 0)) hc155 0 rfl trivial ?_
        exact lp2 ((F 0).toNat + 1) 0 _ _ _ _ _ _ _ _ _ _ _ _ _ _ _ rfl hl109 hl104 hl105 hl110 hl111 hl108 hl107 hl101 (fun p hp => by simp only [yP, sm]; split <;> omega) (fun h hh => by simp only [yH, sm]; omega) (by omega) (by omega)
  refine R_s (P := True) (f' := (49, [some (vR 88), some (vI n), some (vI 0), none, none, none], [], LAY (u (u (u (u (u (u (u (u A0 109 (A0 109)) 104 (A0 104)) 105 (A0 105)) 110 (A0 110)) 111 (A0 111)) 108 (A0 108)) 107 (A0 107)) 101 (A0 101)) (u (u (u (u (u F0 18 (F0 18)) 28 (F0 28)) 29 (F0 29)) 30 (F0 30)) 31 (F0 31)), 0, 0)) hc155 0 rfl trivial ?_
  exact lp (n.toNat + 1) 0 _ _ _ _ _ _ _ _ _ _ _ _ _ _ _ _ _ rfl (by rw [f18]; omega) g109 g104 g105 g110 g111 g108 g107 g101 (fun p hp => by unfold aP; simp only [sm]; rw [e101, (hAC.1 p (by omega) (by omega)).1]; split <;> omega) (fun h hh => by unfold aH; simp only [sm]; rw [e101, (hAC.2 h (by omega) (by omega)).1]; omega) (by omega) (by omega)

theorem ACCT_run {c : Int} {A : Nat → List Int} {F : Nat → Int} (hR : REL c A F) {n : Int} (h0 : 1 ≤ n) (h1 : F 2 + n ≤ 600) {l84 l85 l101 : List Int} (hP : ∀ p : Nat, p < 30 → rd l84 p = aP A F n.toNat p) (hH : ∀ h : Nat, h < 8 → rd l85 h = aH A F n.toNat h) (hP2 : ∀ p : Nat, p < 30 → rd l101 p = aP A F n.toNat p) (hH2 : ∀ h : Nat, h < 8 → rd l101 (30 + h) = aH A F n.toNat h) : ACCT (F 2 + n) l84 l85 l101 := by
  have e : ((n.toNat : Nat) : Int) = n := by omega
  refine ⟨fun i hi hi2 => ?_, fun i hi hi2 => ?_⟩
  · have q := aP_bd hR n.toNat (by omega) i.toNat (by omega)
    have q1 := hP i.toNat (by omega)
    have q2 := hP2 i.toNat (by omega)
    rw [show ((i.toNat : Nat) : Int) = i by omega] at q1 q2
    rw [e] at q
    rw [q1, q2]
    exact ⟨rfl, q.1, q.2⟩
  · have q := aH_bd hR n.toNat (by omega) i.toNat (by omega)
    have q1 := hH i.toNat (by omega)
    have q2 := hH2 i.toNat (by omega)
    rw [show ((i.toNat : Nat) : Int) = i by omega] at q1 q2 q
    rw [e] at q
    rw [q1, q2]
    exact ⟨rfl, q.1, q.2⟩

theorem op_run {c : Int} {A : Nat → List Int} {F : Nat → Int} (hR : REL c A F) (hc : c < 512) (n : Int) (i_n : inI n) : R 81 (0, L0 81 [vR 1, vI n], [], LAY (shA A) (shF F), 0, 0) (fun r G => (∃ x, r = some (vI x)) ∧ (∃ (A1 : Nat → List Int) (F1 : Nat → Int), G = LAY A1 F1 ∧ A1 0 = A 0) ∧ R 155 (0, L0 155 [vR 88, vI n], [], G, 0, 0) (fun r2 G2 => r2 = r ∧ ∃ (A' : Nat → List Int) (F' : Nat → Int), G2 = LAY (shA A') (shF F') ∧ A' 0 = A 0 ∧ REL (c + 1) A' F')) := by
  have hR0 := hR
  obtain ⟨hL, hPE, hTH, hTP, hDE, hLE, hNO, hAC, hRO, hRE⟩ := hR
  have j_n := i_n
  unfold inI at j_n
  have h87 : (A 87).length = 9 := hL 87 (by decide)
  have r2 := REFU_at hRE (k := 2) (by decide) (by decide) hc
  have r3 := REFU_at hRE (k := 3) (by decide) (by decide) hc
  have r4 := REFU_at hRE (k := 4) (by decide) (by decide) hc
  have r5 := REFU_at hRE (k := 5) (by decide) (by decide) hc
  have r6 := REFU_at hRE (k := 6) (by decide) (by decide) hc
  have r7 := REFU_at hRE (k := 7) (by decide) (by decide) hc
  have r8 := REFU_at hRE (k := 8) (by decide) (by decide) hc
  obtain ⟨t1, t2, t3, t4, t5, t6⟩ := hTH
  obtain ⟨p1, p2, p3, p4, p5, p6⟩ := hPE
  refine R_s (P := True) (f' := (1, [some (vR 1), some (vI n), none], [vI n], LAY (shA A) (shF F), 0, 0)) hc81 1 rfl trivial ?_
  refine R_if (t := 11) hc81 rfl rfl (fun (c1 : 0 ≤ n) => ?_) (fun (c1 : ¬ (0 ≤ n)) => ?_)
  · refine R_s (P := True) (f' := (13, [some (vR 1), some (vI n), none], [vI 1, vI n], LAY (shA A) (shF F), 0, 0)) hc81 2 rfl trivial ?_
    refine R_ic (t := 22) hc81 rfl rfl (fun (c2 : n < 1) => ?_) (fun (c2 : ¬ (n < 1)) => ?_)
    · refine R_s (P := True) (f' := (25, [some (vR 1), some (vI n), none], [vI (-7), vR 1], LAY (shA A) (shF F), 0, 0)) hc81 2 rfl trivial ?_
      refine R_cv hc81 rfl rfl ?_ (fun r G h => h)
      refine R_s (P := True) (f' := (3, [some (vR 1), some (vI (-7))], [vI (-2), vI (-7)], LAY (shA A) (shF F), 0, 0)) hc93 2 rfl trivial ?_
      refine R_ic (t := 23) hc93 rfl rfl (fun (z : (-2) < (-7)) => absurd z (by decide)) (fun (_ : ¬ ((-2) < (-7))) => ?_)
      refine R_s (P := True) (f' := (9, [some (vR 1), some (vI (-7))], [vI (-8), vI (-7)], LAY (shA A) (shF F), 0, 0)) hc93 2 rfl trivial ?_
      refine R_ic (t := 23) hc93 rfl rfl (fun (z : (-7) < (-8)) => absurd z (by decide)) (fun (_ : ¬ ((-7) < (-8))) => ?_)
      refine R_s (P := inI 7 ∧ (0 ≤ 7 ∧ 7 < ((A 87).length : Int)) ∧ inI ((rd (A 87) 7) + 1) ∧ (0 ≤ 7 ∧ 7 < ((A 87).length : Int)) ∧ True) (f' := (24, [some (vR 1), some (vI (-7))], [vI (-7)], LAY (u (shA A) 87 (wr (A 87) 7 ((rd (A 87) 7) + 1))) (shF F), 0, 0)) hc93 10 rfl ⟨⟨by omega, by omega⟩, ⟨by omega, by omega⟩, ⟨by omega, by omega⟩, ⟨by omega, by omega⟩, trivial⟩ ?_
      refine R_reti hc93 rfl rfl ?_
      refine R_s (f' := (28, [some (vR 1), some (vI n), none], [vI (-7)], LAY (u (shA A) 87 (wr (A 87) 7 ((rd (A 87) 7) + 1))) (shF F), 0, 0)) hc81 0 rfl trivial ?_
      refine R_reti hc81 rfl rfl ⟨⟨_, rfl⟩, ⟨_, _, rfl, rfl⟩, ?_⟩
      refine R_s (P := True) (f' := (1, [some (vR 88), some (vI n), none, none, none, none], [vI n], LAY (u (shA A) 87 (wr (A 87) 7 ((rd (A 87) 7) + 1))) (shF F), 0, 0)) hc155 1 rfl trivial ?_
      refine R_if (t := 11) hc155 rfl rfl (fun (_ : 0 ≤ n) => ?_) (fun (z : ¬ (0 ≤ n)) => absurd (show 0 ≤ n by omega) z)
      refine R_s (P := True) (f' := (15, [some (vR 88), some (vI n), none, none, none, none], [vI 100, vI 1, vI n], LAY (u (shA A) 87 (wr (A 87) 7 ((rd (A 87) 7) + 1))) (shF F), 0, 0)) hc155 3 rfl trivial ?_
      refine R_cs hc155 rfl rfl ?_ (fun r G h => h)
      refine R_s (P := True) (f' := (2, [some (vI n), some (vI 1), some (vI 100)], [vI 1, vI n], LAY (u (shA A) 87 (wr (A 87) 7 ((rd (A 87) 7) + 1))) (shF F), 0, 0)) hc104 2 rfl trivial ?_
      refine R_ic (t := 14) hc104 rfl rfl (fun (_ : n < 1) => ?_) (fun (z : ¬ (n < 1)) => absurd (show n < 1 by omega) z)
      refine R_s (P := True) (f' := (15, [some (vI n), some (vI 1), some (vI 100)], [vI 0], LAY (u (shA A) 87 (wr (A 87) 7 ((rd (A 87) 7) + 1))) (shF F), 0, 0)) hc104 1 rfl trivial ?_
      refine R_retz hc104 rfl rfl (Or.inl rfl) ?_
      refine R_s (f' := (18, [some (vR 88), some (vI n), none, none, none, none], [vI 0], LAY (u (shA A) 87 (wr (A 87) 7 ((rd (A 87) 7) + 1))) (shF F), 0, 0)) hc155 0 rfl trivial ?_
      refine R_if (t := 28) hc155 rfl rfl (fun (z : ¬ 0 = 0) => absurd z (by decide)) (fun (_ : ¬ (¬ 0 = 0)) => ?_)
      refine R_s (P := True) (f' := (24, [some (vR 88), some (vI n), none, none, none, none], [vI (-7), vR 88], LAY (u (shA A) 87 (wr (A 87) 7 ((rd (A 87) 7) + 1))) (shF F), 0, 0)) hc155 2 rfl trivial ?_
      refine R_cv hc155 rfl rfl ?_ (fun r G h => h)
      refine R_s (P := inI 7 ∧ (0 ≤ 7 ∧ 7 < ((A 87).length : Int)) ∧ inI ((rd (A 87) 7) + 1) ∧ (0 ≤ 7 ∧ 7 < ((A 87).length : Int)) ∧ True) (f' := (12, [some (vR 88), some (vI (-7))], [vI (-7)], LAY (u (u (shA A) 87 (wr (A 87) 7 ((rd (A 87) 7) + 1))) 89 (wr (A 87) 7 ((rd (A 87) 7) + 1))) (shF F), 0, 0)) hc105 10 rfl ⟨⟨by omega, by omega⟩, ⟨by omega, by omega⟩, ⟨by omega, by omega⟩, ⟨by omega, by omega⟩, trivial⟩ ?_
      refine R_reti hc105 rfl rfl ?_
      refine R_s (f' := (27, [some (vR 88), some (vI n), none, none, none, none], [vI (-7)], LAY (u (u (shA A) 87 (wr (A 87) 7 ((rd (A 87) 7) + 1))) 89 (wr (A 87) 7 ((rd (A 87) 7) + 1))) (shF F), 0, 0)) hc155 0 rfl trivial ?_
      refine R_reti hc155 rfl rfl ?_
      first
        | (exfalso; omega; done)
        | exact ⟨rfl, (u A 87 (wr (A 87) 7 ((rd (A 87) 7) + 1))), F, rfl, rfl, REL_ref hR0 (by decide) (by decide)⟩
    · refine R_s (P := True) (f' := (19, [some (vR 1), some (vI n), none], [vI 100, vI n], LAY (shA A) (shF F), 0, 0)) hc81 2 rfl trivial ?_
      refine R_ic (t := 29) hc81 rfl rfl (fun (c5 : n ≤ 100) => ?_) (fun (c5 : ¬ (n ≤ 100)) => ?_)
      · refine R_s (P := inI (600 - (F 2)) ∧ True) (f' := (38, [some (vR 1), some (vI n), none], [vI (600 - (F 2)), vI n], LAY (shA A) (shF F), 0, 0)) hc81 5 rfl ⟨⟨by omega, by omega⟩, trivial⟩ ?_
        refine R_ic (t := 48) hc81 rfl rfl (fun (c6 : n ≤ 600 - (F 2)) => ?_) (fun (c6 : ¬ (n ≤ 600 - (F 2))) => ?_)
        · refine R_s (P := True) (f' := (50, [some (vR 1), some (vI n), some (vI 0)], [], LAY (shA A) (shF F), 0, 0)) hc81 2 rfl trivial ?_
          refine run_C hR0 (n := n) (by omega) (by omega) (fun x m8 m9 m10 m11 m75 m76 m77 m78 m84 m85 km8 km9 km10 km11 km75 km76 km77 km78 km84 km85 w14 w15 hP hH => ?_)
          refine R_s (P := True) (f' := (69, [some (vR 1), some (vI n), some (vI x)], [vI (F 2 + n)], LAY (u (u (u (u (u (u (u (u (u (u (shA A) 8 m8) 9 m9) 10 m10) 11 m11) 75 m75) 76 m76) 77 m77) 78 m78) 84 m84) 85 m85) (u (u (u (shF F) 2 (F 2 + n)) 14 w14) 15 w15), 0, 0)) hc81 2 rfl trivial ?_
          refine R_reti hc81 rfl rfl ⟨⟨_, rfl⟩, ⟨_, _, rfl, rfl⟩, ?_⟩
          refine R_s (P := True) (f' := (1, [some (vR 88), some (vI n), none, none, none, none], [vI n], LAY (u (u (u (u (u (u (u (u (u (u (shA A) 8 m8) 9 m9) 10 m10) 11 m11) 75 m75) 76 m76) 77 m77) 78 m78) 84 m84) 85 m85) (u (u (u (shF F) 2 (F 2 + n)) 14 w14) 15 w15), 0, 0)) hc155 1 rfl trivial ?_
          refine R_if (t := 11) hc155 rfl rfl (fun (_ : 0 ≤ n) => ?_) (fun (z : ¬ (0 ≤ n)) => absurd (show 0 ≤ n by omega) z)
          refine R_s (P := True) (f' := (15, [some (vR 88), some (vI n), none, none, none, none], [vI 100, vI 1, vI n], LAY (u (u (u (u (u (u (u (u (u (u (shA A) 8 m8) 9 m9) 10 m10) 11 m11) 75 m75) 76 m76) 77 m77) 78 m78) 84 m84) 85 m85) (u (u (u (shF F) 2 (F 2 + n)) 14 w14) 15 w15), 0, 0)) hc155 3 rfl trivial ?_
          refine R_cs hc155 rfl rfl ?_ (fun r G h => h)
          refine R_s (P := True) (f' := (2, [some (vI n), some (vI 1), some (vI 100)], [vI 1, vI n], LAY (u (u (u (u (u (u (u (u (u (u (shA A) 8 m8) 9 m9) 10 m10) 11 m11) 75 m75) 76 m76) 77 m77) 78 m78) 84 m84) 85 m85) (u (u (u (shF F) 2 (F 2 + n)) 14 w14) 15 w15), 0, 0)) hc104 2 rfl trivial ?_
          refine R_ic (t := 14) hc104 rfl rfl (fun (z : n < 1) => absurd z (by omega)) (fun (_ : ¬ (n < 1)) => ?_)
          refine R_s (P := True) (f' := (7, [some (vI n), some (vI 1), some (vI 100)], [vI 100, vI n], LAY (u (u (u (u (u (u (u (u (u (u (shA A) 8 m8) 9 m9) 10 m10) 11 m11) 75 m75) 76 m76) 77 m77) 78 m78) 84 m84) 85 m85) (u (u (u (shF F) 2 (F 2 + n)) 14 w14) 15 w15), 0, 0)) hc104 2 rfl trivial ?_
          refine R_ic (t := 14) hc104 rfl rfl (fun (z : 100 < n) => absurd z (by omega)) (fun (_ : ¬ (100 < n)) => ?_)
          refine R_s (P := True) (f' := (15, [some (vI n), some (vI 1), some (vI 100)], [vI 1], LAY (u (u (u (u (u (u (u (u (u (u (shA A) 8 m8) 9 m9) 10 m10) 11 m11) 75 m75) 76 m76) 77 m77) 78 m78) 84 m84) 85 m85) (u (u (u (shF F) 2 (F 2 + n)) 14 w14) 15 w15), 0, 0)) hc104 2 rfl trivial ?_
          refine R_retz hc104 rfl rfl (Or.inr rfl) ?_
          refine R_s (f' := (18, [some (vR 88), some (vI n), none, none, none, none], [vI 1], LAY (u (u (u (u (u (u (u (u (u (u (shA A) 8 m8) 9 m9) 10 m10) 11 m11) 75 m75) 76 m76) 77 m77) 78 m78) 84 m84) 85 m85) (u (u (u (shF F) 2 (F 2 + n)) 14 w14) 15 w15), 0, 0)) hc155 0 rfl trivial ?_
          refine R_if (t := 28) hc155 rfl rfl (fun (_ : ¬ 1 = 0) => ?_) (fun (z : ¬ (¬ 1 = 0)) => absurd (by decide) z)
          refine R_s (P := inI ((F 2) + n) ∧ True) (f' := (37, [some (vR 88), some (vI n), none, none, none, none], [vI 600, vI ((F 2) + n)], LAY (u (u (u (u (u (u (u (u (u (u (shA A) 8 m8) 9 m9) 10 m10) 11 m11) 75 m75) 76 m76) 77 m77) 78 m78) 84 m84) 85 m85) (u (u (u (shF F) 2 (F 2 + n)) 14 w14) 15 w15), 0, 0)) hc155 5 rfl ⟨⟨by omega, by omega⟩, trivial⟩ ?_
          refine R_ic (t := 47) hc155 rfl rfl (fun (_ : (F 2) + n ≤ 600) => ?_) (fun (z : ¬ ((F 2) + n ≤ 600)) => absurd (show (F 2) + n ≤ 600 by omega) z)
          refine R_s (P := True) (f' := (49, [some (vR 88), some (vI n), some (vI 0), none, none, none], [], LAY (u (u (u (u (u (u (u (u (u (u (shA A) 8 m8) 9 m9) 10 m10) 11 m11) 75 m75) 76 m76) 77 m77) 78 m78) 84 m84) 85 m85) (u (u (u (shF F) 2 (F 2 + n)) 14 w14) 15 w15), 0, 0)) hc155 2 rfl trivial ?_
          refine run_M hR0 (A0 := (u (u (u (u (u (u (u (u (u (u (shA A) 8 m8) 9 m9) 10 m10) 11 m11) 75 m75) 76 m76) 77 m77) 78 m78) 84 m84) 85 m85)) (F0 := (u (u (u (shF F) 2 (F 2 + n)) 14 w14) 15 w15)) rfl rfl rfl rfl rfl rfl rfl rfl rfl rfl rfl rfl rfl rfl rfl (hL 109 (by decide)) (hL 104 (by decide)) (hL 105 (by decide)) (hL 110 (by decide)) (hL 111 (by decide)) (hL 108 (by decide)) (hL 107 (by decide)) (hL 101 (by decide)) (n := n) (by omega) (by omega) (fun x2 u3 u4 u5 l109 l104 l105 l110 l111 l108 l107 l101 kl109 kl104 kl105 kl110 kl111 kl108 kl107 kl101 v28 v29 v30 v31 hP2 hH2 => ?_)
          refine R_s (P := True) (f' := (212, [some (vR 88), some (vI n), some (vI x2), u3, u4, u5], [vI (F 2 + n)], LAY (u (u (u (u (u (u (u (u (u (u (u (u (u (u (u (u (u (u (shA A) 8 m8) 9 m9) 10 m10) 11 m11) 75 m75) 76 m76) 77 m77) 78 m78) 84 m84) 85 m85) 109 l109) 104 l104) 105 l105) 110 l110) 111 l111) 108 l108) 107 l107) 101 l101) (u (u (u (u (u (u (u (u (shF F) 2 (F 2 + n)) 14 w14) 15 w15) 18 (F 2 + n)) 28 v28) 29 v29) 30 v30) 31 v31), 0, 0)) hc155 2 rfl trivial ?_
          refine R_reti hc155 rfl rfl ?_
          first
            | (exfalso; omega; done)
            | exact ⟨rfl, (u (u (u (u (u (u (u (u (u (u (u (u (u (u (u (u (u (u A 8 m8) 9 m9) 10 m10) 11 m11) 75 m75) 76 m76) 77 m77) 78 m78) 84 m84) 85 m85) 109 l109) 104 l104) 105 l105) 110 l110) 111 l111) 108 l108) 107 l107) 101 l101), (u (u (u (u (u (u (u F 2 (F 2 + n)) 14 w14) 15 w15) 28 v28) 29 v29) 30 v30) 31 v31), rfl, rfl, ⟨(LENS_u (LENS_u (LENS_u (LENS_u (LENS_u (LENS_u (LENS_u (LENS_u (LENS_u (LENS_u (LENS_u (LENS_u (LENS_u (LENS_u (LENS_u (LENS_u (LENS_u (LENS_u hL (by show (m8).length = (A 8).length; rw [km8, hL 8 (by decide)]; rfl)) (by show (m9).length = (A 9).length; rw [km9, hL 9 (by decide)]; rfl)) (by show (m10).length = (A 10).length; rw [km10, hL 10 (by decide)]; rfl)) (by show (m11).length = (A 11).length; rw [km11, hL 11 (by decide)]; rfl)) (by show (m75).length = (A 75).length; rw [km75, hL 75 (by decide)]; rfl)) (by show (m76).length = (A 76).length; rw [km76, hL 76 (by decide)]; rfl)) (by show (m77).length = (A 77).length; rw [km77, hL 77 (by decide)]; rfl)) (by show (m78).length = (A 78).length; rw [km78, hL 78 (by decide)]; rfl)) (by show (m84).length = (A 84).length; rw [km84, hL 84 (by decide)]; rfl)) (by show (m85).length = (A 85).length; rw [km85, hL 85 (by decide)]; rfl)) (by show (l109).length = (A 109).length; rw [kl109, hL 109 (by decide)]; rfl)) (by show (l104).length = (A 104).length; rw [kl104, hL 104 (by decide)]; rfl)) (by show (l105).length = (A 105).length; rw [kl105, hL 105 (by decide)]; rfl)) (by show (l110).length = (A 110).length; rw [kl110, hL 110 (by decide)]; rfl)) (by show (l111).length = (A 111).length; rw [kl111, hL 111 (by decide)]; rfl)) (by show (l108).length = (A 108).length; rw [kl108, hL 108 (by decide)]; rfl)) (by show (l107).length = (A 107).length; rw [kl107, hL 107 (by decide)]; rfl)) (by show (l101).length = (A 101).length; rw [kl101, hL 101 (by decide)]; rfl)), hR0.2.1, hR0.2.2.1, hR0.2.2.2.1, hR0.2.2.2.2.1, hR0.2.2.2.2.2.1, ⟨(show 0 ≤ F 2 + n by omega), (show F 2 + n ≤ 600 by omega)⟩, (ACCT_run hR0 (by omega) (by omega) hP hH hP2 hH2), hR0.2.2.2.2.2.2.2.2.1, (REFU_c hR0.2.2.2.2.2.2.2.2.2)⟩⟩
        · refine R_s (P := True) (f' := (44, [some (vR 1), some (vI n), none], [vI (-8), vR 1], LAY (shA A) (shF F), 0, 0)) hc81 2 rfl trivial ?_
          refine R_cv hc81 rfl rfl ?_ (fun r G h => h)
          refine R_s (P := True) (f' := (3, [some (vR 1), some (vI (-8))], [vI (-2), vI (-8)], LAY (shA A) (shF F), 0, 0)) hc93 2 rfl trivial ?_
          refine R_ic (t := 23) hc93 rfl rfl (fun (z : (-2) < (-8)) => absurd z (by decide)) (fun (_ : ¬ ((-2) < (-8))) => ?_)
          refine R_s (P := True) (f' := (9, [some (vR 1), some (vI (-8))], [vI (-8), vI (-8)], LAY (shA A) (shF F), 0, 0)) hc93 2 rfl trivial ?_
          refine R_ic (t := 23) hc93 rfl rfl (fun (z : (-8) < (-8)) => absurd z (by decide)) (fun (_ : ¬ ((-8) < (-8))) => ?_)
          refine R_s (P := inI 8 ∧ (0 ≤ 8 ∧ 8 < ((A 87).length : Int)) ∧ inI ((rd (A 87) 8) + 1) ∧ (0 ≤ 8 ∧ 8 < ((A 87).length : Int)) ∧ True) (f' := (24, [some (vR 1), some (vI (-8))], [vI (-8)], LAY (u (shA A) 87 (wr (A 87) 8 ((rd (A 87) 8) + 1))) (shF F), 0, 0)) hc93 10 rfl ⟨⟨by omega, by omega⟩, ⟨by omega, by omega⟩, ⟨by omega, by omega⟩, ⟨by omega, by omega⟩, trivial⟩ ?_
          refine R_reti hc93 rfl rfl ?_
          refine R_s (f' := (47, [some (vR 1), some (vI n), none], [vI (-8)], LAY (u (shA A) 87 (wr (A 87) 8 ((rd (A 87) 8) + 1))) (shF F), 0, 0)) hc81 0 rfl trivial ?_
          refine R_reti hc81 rfl rfl ⟨⟨_, rfl⟩, ⟨_, _, rfl, rfl⟩, ?_⟩
          refine R_s (P := True) (f' := (1, [some (vR 88), some (vI n), none, none, none, none], [vI n], LAY (u (shA A) 87 (wr (A 87) 8 ((rd (A 87) 8) + 1))) (shF F), 0, 0)) hc155 1 rfl trivial ?_
          refine R_if (t := 11) hc155 rfl rfl (fun (_ : 0 ≤ n) => ?_) (fun (z : ¬ (0 ≤ n)) => absurd (show 0 ≤ n by omega) z)
          refine R_s (P := True) (f' := (15, [some (vR 88), some (vI n), none, none, none, none], [vI 100, vI 1, vI n], LAY (u (shA A) 87 (wr (A 87) 8 ((rd (A 87) 8) + 1))) (shF F), 0, 0)) hc155 3 rfl trivial ?_
          refine R_cs hc155 rfl rfl ?_ (fun r G h => h)
          refine R_s (P := True) (f' := (2, [some (vI n), some (vI 1), some (vI 100)], [vI 1, vI n], LAY (u (shA A) 87 (wr (A 87) 8 ((rd (A 87) 8) + 1))) (shF F), 0, 0)) hc104 2 rfl trivial ?_
          refine R_ic (t := 14) hc104 rfl rfl (fun (z : n < 1) => absurd z (by omega)) (fun (_ : ¬ (n < 1)) => ?_)
          refine R_s (P := True) (f' := (7, [some (vI n), some (vI 1), some (vI 100)], [vI 100, vI n], LAY (u (shA A) 87 (wr (A 87) 8 ((rd (A 87) 8) + 1))) (shF F), 0, 0)) hc104 2 rfl trivial ?_
          refine R_ic (t := 14) hc104 rfl rfl (fun (z : 100 < n) => absurd z (by omega)) (fun (_ : ¬ (100 < n)) => ?_)
          refine R_s (P := True) (f' := (15, [some (vI n), some (vI 1), some (vI 100)], [vI 1], LAY (u (shA A) 87 (wr (A 87) 8 ((rd (A 87) 8) + 1))) (shF F), 0, 0)) hc104 2 rfl trivial ?_
          refine R_retz hc104 rfl rfl (Or.inr rfl) ?_
          refine R_s (f' := (18, [some (vR 88), some (vI n), none, none, none, none], [vI 1], LAY (u (shA A) 87 (wr (A 87) 8 ((rd (A 87) 8) + 1))) (shF F), 0, 0)) hc155 0 rfl trivial ?_
          refine R_if (t := 28) hc155 rfl rfl (fun (_ : ¬ 1 = 0) => ?_) (fun (z : ¬ (¬ 1 = 0)) => absurd (by decide) z)
          refine R_s (P := inI ((F 2) + n) ∧ True) (f' := (37, [some (vR 88), some (vI n), none, none, none, none], [vI 600, vI ((F 2) + n)], LAY (u (shA A) 87 (wr (A 87) 8 ((rd (A 87) 8) + 1))) (shF F), 0, 0)) hc155 5 rfl ⟨⟨by omega, by omega⟩, trivial⟩ ?_
          refine R_ic (t := 47) hc155 rfl rfl (fun (z : (F 2) + n ≤ 600) => absurd z (by omega)) (fun (_ : ¬ ((F 2) + n ≤ 600)) => ?_)
          refine R_s (P := True) (f' := (43, [some (vR 88), some (vI n), none, none, none, none], [vI (-8), vR 88], LAY (u (shA A) 87 (wr (A 87) 8 ((rd (A 87) 8) + 1))) (shF F), 0, 0)) hc155 2 rfl trivial ?_
          refine R_cv hc155 rfl rfl ?_ (fun r G h => h)
          refine R_s (P := inI 8 ∧ (0 ≤ 8 ∧ 8 < ((A 87).length : Int)) ∧ inI ((rd (A 87) 8) + 1) ∧ (0 ≤ 8 ∧ 8 < ((A 87).length : Int)) ∧ True) (f' := (12, [some (vR 88), some (vI (-8))], [vI (-8)], LAY (u (u (shA A) 87 (wr (A 87) 8 ((rd (A 87) 8) + 1))) 89 (wr (A 87) 8 ((rd (A 87) 8) + 1))) (shF F), 0, 0)) hc105 10 rfl ⟨⟨by omega, by omega⟩, ⟨by omega, by omega⟩, ⟨by omega, by omega⟩, ⟨by omega, by omega⟩, trivial⟩ ?_
          refine R_reti hc105 rfl rfl ?_
          refine R_s (f' := (46, [some (vR 88), some (vI n), none, none, none, none], [vI (-8)], LAY (u (u (shA A) 87 (wr (A 87) 8 ((rd (A 87) 8) + 1))) 89 (wr (A 87) 8 ((rd (A 87) 8) + 1))) (shF F), 0, 0)) hc155 0 rfl trivial ?_
          refine R_reti hc155 rfl rfl ?_
          first
            | (exfalso; omega; done)
            | exact ⟨rfl, (u A 87 (wr (A 87) 8 ((rd (A 87) 8) + 1))), F, rfl, rfl, REL_ref hR0 (by decide) (by decide)⟩
      · refine R_s (P := True) (f' := (25, [some (vR 1), some (vI n), none], [vI (-7), vR 1], LAY (shA A) (shF F), 0, 0)) hc81 2 rfl trivial ?_
        refine R_cv hc81 rfl rfl ?_ (fun r G h => h)
        refine R_s (P := True) (f' := (3, [some (vR 1), some (vI (-7))], [vI (-2), vI (-7)], LAY (shA A) (shF F), 0, 0)) hc93 2 rfl trivial ?_
        refine R_ic (t := 23) hc93 rfl rfl (fun (z : (-2) < (-7)) => absurd z (by decide)) (fun (_ : ¬ ((-2) < (-7))) => ?_)
        refine R_s (P := True) (f' := (9, [some (vR 1), some (vI (-7))], [vI (-8), vI (-7)], LAY (shA A) (shF F), 0, 0)) hc93 2 rfl trivial ?_
        refine R_ic (t := 23) hc93 rfl rfl (fun (z : (-7) < (-8)) => absurd z (by decide)) (fun (_ : ¬ ((-7) < (-8))) => ?_)
        refine R_s (P := inI 7 ∧ (0 ≤ 7 ∧ 7 < ((A 87).length : Int)) ∧ inI ((rd (A 87) 7) + 1) ∧ (0 ≤ 7 ∧ 7 < ((A 87).length : Int)) ∧ True) (f' := (24, [some (vR 1), some (vI (-7))], [vI (-7)], LAY (u (shA A) 87 (wr (A 87) 7 ((rd (A 87) 7) + 1))) (shF F), 0, 0)) hc93 10 rfl ⟨⟨by omega, by omega⟩, ⟨by omega, by omega⟩, ⟨by omega, by omega⟩, ⟨by omega, by omega⟩, trivial⟩ ?_
        refine R_reti hc93 rfl rfl ?_
        refine R_s (f' := (28, [some (vR 1), some (vI n), none], [vI (-7)], LAY (u (shA A) 87 (wr (A 87) 7 ((rd (A 87) 7) + 1))) (shF F), 0, 0)) hc81 0 rfl trivial ?_
        refine R_reti hc81 rfl rfl ⟨⟨_, rfl⟩, ⟨_, _, rfl, rfl⟩, ?_⟩
        refine R_s (P := True) (f' := (1, [some (vR 88), some (vI n), none, none, none, none], [vI n], LAY (u (shA A) 87 (wr (A 87) 7 ((rd (A 87) 7) + 1))) (shF F), 0, 0)) hc155 1 rfl trivial ?_
        refine R_if (t := 11) hc155 rfl rfl (fun (_ : 0 ≤ n) => ?_) (fun (z : ¬ (0 ≤ n)) => absurd (show 0 ≤ n by omega) z)
        refine R_s (P := True) (f' := (15, [some (vR 88), some (vI n), none, none, none, none], [vI 100, vI 1, vI n], LAY (u (shA A) 87 (wr (A 87) 7 ((rd (A 87) 7) + 1))) (shF F), 0, 0)) hc155 3 rfl trivial ?_
        refine R_cs hc155 rfl rfl ?_ (fun r G h => h)
        refine R_s (P := True) (f' := (2, [some (vI n), some (vI 1), some (vI 100)], [vI 1, vI n], LAY (u (shA A) 87 (wr (A 87) 7 ((rd (A 87) 7) + 1))) (shF F), 0, 0)) hc104 2 rfl trivial ?_
        refine R_ic (t := 14) hc104 rfl rfl (fun (z : n < 1) => absurd z (by omega)) (fun (_ : ¬ (n < 1)) => ?_)
        refine R_s (P := True) (f' := (7, [some (vI n), some (vI 1), some (vI 100)], [vI 100, vI n], LAY (u (shA A) 87 (wr (A 87) 7 ((rd (A 87) 7) + 1))) (shF F), 0, 0)) hc104 2 rfl trivial ?_
        refine R_ic (t := 14) hc104 rfl rfl (fun (_ : 100 < n) => ?_) (fun (z : ¬ (100 < n)) => absurd (show 100 < n by omega) z)
        refine R_s (P := True) (f' := (15, [some (vI n), some (vI 1), some (vI 100)], [vI 0], LAY (u (shA A) 87 (wr (A 87) 7 ((rd (A 87) 7) + 1))) (shF F), 0, 0)) hc104 1 rfl trivial ?_
        refine R_retz hc104 rfl rfl (Or.inl rfl) ?_
        refine R_s (f' := (18, [some (vR 88), some (vI n), none, none, none, none], [vI 0], LAY (u (shA A) 87 (wr (A 87) 7 ((rd (A 87) 7) + 1))) (shF F), 0, 0)) hc155 0 rfl trivial ?_
        refine R_if (t := 28) hc155 rfl rfl (fun (z : ¬ 0 = 0) => absurd z (by decide)) (fun (_ : ¬ (¬ 0 = 0)) => ?_)
        refine R_s (P := True) (f' := (24, [some (vR 88), some (vI n), none, none, none, none], [vI (-7), vR 88], LAY (u (shA A) 87 (wr (A 87) 7 ((rd (A 87) 7) + 1))) (shF F), 0, 0)) hc155 2 rfl trivial ?_
        refine R_cv hc155 rfl rfl ?_ (fun r G h => h)
        refine R_s (P := inI 7 ∧ (0 ≤ 7 ∧ 7 < ((A 87).length : Int)) ∧ inI ((rd (A 87) 7) + 1) ∧ (0 ≤ 7 ∧ 7 < ((A 87).length : Int)) ∧ True) (f' := (12, [some (vR 88), some (vI (-7))], [vI (-7)], LAY (u (u (shA A) 87 (wr (A 87) 7 ((rd (A 87) 7) + 1))) 89 (wr (A 87) 7 ((rd (A 87) 7) + 1))) (shF F), 0, 0)) hc105 10 rfl ⟨⟨by omega, by omega⟩, ⟨by omega, by omega⟩, ⟨by omega, by omega⟩, ⟨by omega, by omega⟩, trivial⟩ ?_
        refine R_reti hc105 rfl rfl ?_
        refine R_s (f' := (27, [some (vR 88), some (vI n), none, none, none, none], [vI (-7)], LAY (u (u (shA A) 87 (wr (A 87) 7 ((rd (A 87) 7) + 1))) 89 (wr (A 87) 7 ((rd (A 87) 7) + 1))) (shF F), 0, 0)) hc155 0 rfl trivial ?_
        refine R_reti hc155 rfl rfl ?_
        first
          | (exfalso; omega; done)
          | exact ⟨rfl, (u A 87 (wr (A 87) 7 ((rd (A 87) 7) + 1))), F, rfl, rfl, REL_ref hR0 (by decide) (by decide)⟩
  · refine R_s (P := True) (f' := (7, [some (vR 1), some (vI n), none], [vI (-4), vR 1], LAY (shA A) (shF F), 0, 0)) hc81 2 rfl trivial ?_
    refine R_cv hc81 rfl rfl ?_ (fun r G h => h)
    refine R_s (P := True) (f' := (3, [some (vR 1), some (vI (-4))], [vI (-2), vI (-4)], LAY (shA A) (shF F), 0, 0)) hc93 2 rfl trivial ?_
    refine R_ic (t := 23) hc93 rfl rfl (fun (z : (-2) < (-4)) => absurd z (by decide)) (fun (_ : ¬ ((-2) < (-4))) => ?_)
    refine R_s (P := True) (f' := (9, [some (vR 1), some (vI (-4))], [vI (-8), vI (-4)], LAY (shA A) (shF F), 0, 0)) hc93 2 rfl trivial ?_
    refine R_ic (t := 23) hc93 rfl rfl (fun (z : (-4) < (-8)) => absurd z (by decide)) (fun (_ : ¬ ((-4) < (-8))) => ?_)
    refine R_s (P := inI 4 ∧ (0 ≤ 4 ∧ 4 < ((A 87).length : Int)) ∧ inI ((rd (A 87) 4) + 1) ∧ (0 ≤ 4 ∧ 4 < ((A 87).length : Int)) ∧ True) (f' := (24, [some (vR 1), some (vI (-4))], [vI (-4)], LAY (u (shA A) 87 (wr (A 87) 4 ((rd (A 87) 4) + 1))) (shF F), 0, 0)) hc93 10 rfl ⟨⟨by omega, by omega⟩, ⟨by omega, by omega⟩, ⟨by omega, by omega⟩, ⟨by omega, by omega⟩, trivial⟩ ?_
    refine R_reti hc93 rfl rfl ?_
    refine R_s (f' := (10, [some (vR 1), some (vI n), none], [vI (-4)], LAY (u (shA A) 87 (wr (A 87) 4 ((rd (A 87) 4) + 1))) (shF F), 0, 0)) hc81 0 rfl trivial ?_
    refine R_reti hc81 rfl rfl ⟨⟨_, rfl⟩, ⟨_, _, rfl, rfl⟩, ?_⟩
    refine R_s (P := True) (f' := (1, [some (vR 88), some (vI n), none, none, none, none], [vI n], LAY (u (shA A) 87 (wr (A 87) 4 ((rd (A 87) 4) + 1))) (shF F), 0, 0)) hc155 1 rfl trivial ?_
    refine R_if (t := 11) hc155 rfl rfl (fun (z : 0 ≤ n) => absurd z (by omega)) (fun (_ : ¬ (0 ≤ n)) => ?_)
    refine R_s (P := True) (f' := (7, [some (vR 88), some (vI n), none, none, none, none], [vI (-4), vR 88], LAY (u (shA A) 87 (wr (A 87) 4 ((rd (A 87) 4) + 1))) (shF F), 0, 0)) hc155 2 rfl trivial ?_
    refine R_cv hc155 rfl rfl ?_ (fun r G h => h)
    refine R_s (P := inI 4 ∧ (0 ≤ 4 ∧ 4 < ((A 87).length : Int)) ∧ inI ((rd (A 87) 4) + 1) ∧ (0 ≤ 4 ∧ 4 < ((A 87).length : Int)) ∧ True) (f' := (12, [some (vR 88), some (vI (-4))], [vI (-4)], LAY (u (u (shA A) 87 (wr (A 87) 4 ((rd (A 87) 4) + 1))) 89 (wr (A 87) 4 ((rd (A 87) 4) + 1))) (shF F), 0, 0)) hc105 10 rfl ⟨⟨by omega, by omega⟩, ⟨by omega, by omega⟩, ⟨by omega, by omega⟩, ⟨by omega, by omega⟩, trivial⟩ ?_
    refine R_reti hc105 rfl rfl ?_
    refine R_s (f' := (10, [some (vR 88), some (vI n), none, none, none, none], [vI (-4)], LAY (u (u (shA A) 87 (wr (A 87) 4 ((rd (A 87) 4) + 1))) 89 (wr (A 87) 4 ((rd (A 87) 4) + 1))) (shF F), 0, 0)) hc155 0 rfl trivial ?_
    refine R_reti hc155 rfl rfl ?_
    first
      | (exfalso; omega; done)
      | exact ⟨rfl, (u A 87 (wr (A 87) 4 ((rd (A 87) 4) + 1))), F, rfl, rfl, REL_ref hR0 (by decide) (by decide)⟩

