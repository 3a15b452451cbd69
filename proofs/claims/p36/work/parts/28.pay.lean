theorem l_clear {A : Nat → List Int} {F : Nat → Int} (hL : LENS A) : R 28 (0, L0 28 [vR 74], [], LAY A F, 0, 0) (fun r G => r = none ∧ ∃ l76 l77, G = LAY (u (u A 76 l76) 77 l77) (u F 14 (-1)) ∧ l76.length = 6 ∧ l77.length = 30 ∧ (∀ p : Nat, p < 6 → rd l76 p = 0) ∧ ∀ p : Nat, p < 30 → rd l77 p = 0) := by
  have h76 : (A 76).length = 6 := hL 76 (by decide)
  have h77 : (A 77).length = 30 := hL 77 (by decide)
  have lp : ∀ (m i : Nat) (x : Int) (l : List Int), x = (i : Int) → l.length = 6 → (∀ p : Nat, p < i → rd l p = 0) → i ≤ 6 → 6 + 1 ≤ i + m → R 28 (7, [some (vR 74), some (vI x)], [], LAY (u A 76 l) (u F 14 (-1)), 0, 0) (fun r G => r = none ∧ ∃ l76 l77, G = LAY (u (u A 76 l76) 77 l77) (u F 14 (-1)) ∧ l76.length = 6 ∧ l77.length = 30 ∧ (∀ p : Nat, p < 6 → rd l76 p = 0) ∧ ∀ p : Nat, p < 30 → rd l77 p = 0) := by
    intro m
    induction m with
    | zero =>
      intro i x l ex hl hz hi hm
      exact absurd hm (by omega)
    | succ m ih =>
      intro i x l ex hl hz hi hm
      refine R_s (P := True) (f' := (10, [some (vR 74), some (vI x)], [vI 6, vI x], LAY (u A 76 l) (u F 14 (-1)), 0, 0)) hc28 2 rfl trivial ?_
      refine R_ic (t := 26) hc28 rfl rfl (fun (c1 : 6 ≤ x) => ?_) (fun (c1 : ¬ (6 ≤ x)) => ?_)
      · refine R_s (P := True) (f' := (28, [some (vR 74), some (vI 0)], [], LAY (u A 76 l) (u F 14 (-1)), 0, 0)) hc28 2 rfl trivial ?_
        have lp2 : ∀ (mj j : Nat) (y : Int) (m : List Int), y = (j : Int) → m.length = 30 → (∀ p : Nat, p < j → rd m p = 0) → j ≤ 30 → 30 + 1 ≤ j + mj → R 28 (28, [some (vR 74), some (vI y)], [], LAY (u (u A 76 l) 77 m) (u F 14 (-1)), 0, 0) (fun r G => r = none ∧ ∃ l76 l77, G = LAY (u (u A 76 l76) 77 l77) (u F 14 (-1)) ∧ l76.length = 6 ∧ l77.length = 30 ∧ (∀ p : Nat, p < 6 → rd l76 p = 0) ∧ ∀ p : Nat, p < 30 → rd l77 p = 0) := by
          intro mj
          induction mj with
          | zero =>
            intro j y m ey hm1 hz2 hj hmj
            exact absurd hmj (by omega)
          | succ mj ihj =>
            intro j y m ey hm1 hz2 hj hmj
            refine R_s (P := True) (f' := (31, [some (vR 74), some (vI y)], [vI 30, vI y], LAY (u (u A 76 l) 77 m) (u F 14 (-1)), 0, 0)) hc28 2 rfl trivial ?_
            refine R_ic (t := 47) hc28 rfl rfl (fun (c1 : 30 ≤ y) => ?_) (fun (c1 : ¬ (30 ≤ y)) => ?_)
            · exact R_retv hc28 rfl rfl ⟨rfl, l, m, rfl, hl, hm1, fun p hp => hz p (by omega), fun p hp => hz2 p (by omega)⟩
            · refine R_s (P := (0 ≤ y ∧ y < ((m).length : Int)) ∧ inI (y + 1) ∧ True) (f' := (28, [some (vR 74), some (vI (y + 1))], [], LAY (u (u A 76 l) 77 (wr m y 0)) (u F 14 (-1)), 0, 0)) hc28 7 rfl ⟨⟨by omega, by omega⟩, ⟨by omega, by omega⟩, trivial⟩ ?_
              exact ihj (j + 1) _ _ (by omega) (by rw [wr_len]; exact hm1) (fun p hp => by rw [rd_wr (by omega) (by omega) (by omega)]; split <;> first | rfl | exact hz2 p (by omega)) (by omega) (by omega)
        refine R_s (P := True) (f' := (28, [some (vR 74), some (vI 0)], [], LAY (u (u A 76 l) 77 (A 77)) (u F 14 (-1)), 0, 0)) hc28 0 rfl trivial ?_
        exact lp2 31 0 _ _ rfl h77 (fun p hp => absurd hp (by omega)) (by omega) (by omega)
      · refine R_s (P := (0 ≤ x ∧ x < ((l).length : Int)) ∧ inI (x + 1) ∧ True) (f' := (7, [some (vR 74), some (vI (x + 1))], [], LAY (u A 76 (wr l x 0)) (u F 14 (-1)), 0, 0)) hc28 7 rfl ⟨⟨by omega, by omega⟩, ⟨by omega, by omega⟩, trivial⟩ ?_
        exact ih (i + 1) _ _ (by omega) (by rw [wr_len]; exact hl) (fun p hp => by rw [rd_wr (by omega) (by omega) (by omega)]; split <;> first | rfl | exact hz p (by omega)) (by omega) (by omega)
  refine R_s (P := True) (f' := (7, [some (vR 74), some (vI 0)], [], LAY (u A 76 (A 76)) (u F 14 (-1)), 0, 0)) hc28 5 rfl trivial ?_
  exact lp 7 0 _ _ rfl h76 (fun p hp => absurd hp (by omega)) (by omega) (by omega)
theorem l_payManager0 {A : Nat → List Int} {F : Nat → Int} {n : Nat} (hL : LENS A) (hn : (n : Int) = F 3) (hn30 : n ≤ 30) (hT : TR (A 3) n) {al : Nat → Int} (hal : ∀ p : Nat, p < n → rd (A 8) p = al p) (ha : ∀ p : Nat, p < n → al p = 0 ∨ al p = 1) {Q : Nat → List Int} {e : Nat} (hQ : QOK n Q e) (hF : F 8 = e) (q0 : A 21 = Q 0) (q1 : A 22 = Q 1) (q2 : A 23 = Q 2) (q3 : A 24 = Q 3) (q4 : A 25 = Q 4) (q5 : A 26 = Q 5) (q6 : A 27 = Q 6) (q7 : A 28 = Q 7) {Y : Int} (hY : 0 ≤ Y ∧ Y ≤ 99990) {so : Nat → Int} (hso : ∀ i : Nat, i < e → rd (A 75) i = so i) (hso1 : ∀ i : Nat, so i = 0 ∨ so i = 1) (h76z : ∀ j : Nat, j < 6 → rd (A 76) j = 0) (h77z : ∀ p : Nat, p < 30 → rd (A 77) p = 0) (h14 : F 14 = -1) {mg pm : Int} (hmg : mg = S_mg n (A 3) (A 4) al Q so) (hpm : pm = S_pm Y Q mg) : R 30 (0, L0 30 [vR 74, vR 2, vR 20, vI Y], [], LAY A F, 0, 0) (fun r G => r = some (vI pm) ∧ ∃ l11 l76 l77, G = LAY (u (u (u A 11 l11) 76 l76) 77 l77) (u F 14 mg) ∧ l11.length = 30 ∧ l76.length = 6 ∧ l77.length = 30 ∧ (∀ j : Nat, j < 6 → rd l76 j = if j = 0 then pm else 0) ∧ ∀ p : Nat, p < n → rd l77 p = if mg = p then pm else 0) := by
  have h4 : (A 4).length = 30 := hL 4 (by decide)
  have h11 : (A 11).length = 30 := hL 11 (by decide)
  have h75 : (A 75).length = 6 := hL 75 (by decide)
  have h76 : (A 76).length = 6 := hL 76 (by decide)
  have h77 : (A 77).length = 30 := hL 77 (by decide)
  have d0 : (A 21).length = 6 := hL 21 (by decide)
  have d1 : (A 22).length = 6 := hL 22 (by decide)
  have d2 : (A 23).length = 6 := hL 23 (by decide)
  have d3 : (A 24).length = 6 := hL 24 (by decide)
  have d4 : (A 25).length = 6 := hL 25 (by decide)
  have d5 : (A 26).length = 6 := hL 26 (by decide)
  have d6 : (A 27).length = 6 := hL 27 (by decide)
  have d7 : (A 28).length = 6 := hL 28 (by decide)
  have he1 := hQ.1
  have he2 := hQ.2.1
  have hk0 : (rd (Q 0) 0 = 2 → rd (Q 1) 0 ≤ 100) ∧ (rd (Q 0) 0 = 3 ∨ (0 ≤ rd (Q 1) 0 ∧ rd (Q 1) 0 ≤ 9999)) ∧ (rd (Q 0) 0 = 1 ∨ rd (Q 0) 0 = 2 → 0 ≤ rd (Q 2) 0 ∧ rd (Q 2) 0 < n) := by
    have z := hQ.2.2.2 0 (by omega)
    exact ⟨fun q => (z.2.2.1 q).2, z.2.2.2.1, z.2.2.2.2.1⟩
  have hs0 : rd (A 75) 0 = so 0 := hso 0 (by omega)
  have hs1 := hso1 0
  have k0 : rd (A 21) 0 = rd (Q 0) 0 := by rw [q0]
  have k1 : rd (A 22) 0 = rd (Q 1) 0 := by rw [q1]
  have k2 : rd (A 23) 0 = rd (Q 2) 0 := by rw [q2]
  refine R_s (P := True) (f' := (5, [some (vR 74), some (vR 2), some (vR 20), some (vI Y)], [vI 1, vI (F 8)], LAY A F, 0, 0)) hc30 3 rfl trivial ?_
  refine R_ic (t := 27) hc30 rfl rfl (fun (z : F 8 < 1) => absurd z (by omega)) (fun (_ : ¬ (F 8 < 1)) => ?_)
  refine R_s (P := (0 ≤ 0 ∧ 0 < ((A 21).length : Int)) ∧ True) (f' := (15, [some (vR 74), some (vR 2), some (vR 20), some (vI Y)], [vI 2, vI (rd (A 21) 0)], LAY A F, 0, 0)) hc30 5 rfl ⟨⟨by omega, by omega⟩, trivial⟩ ?_
  refine R_ic (t := 27) hc30 rfl rfl (fun (c2 : ¬ rd (A 21) 0 = 2) => ?_) (fun (c2 : ¬ (¬ rd (A 21) 0 = 2)) => ?_)
  · refine R_s (P := True) (f' := (28, [some (vR 74), some (vR 2), some (vR 20), some (vI Y)], [vI 0], LAY A F, 0, 0)) hc30 1 rfl trivial ?_
    refine R_reti hc30 rfl rfl ⟨?_, A 11, A 76, A 77, ?_, h11, h76, h77, ?_, ?_⟩
    all_goals have hm1 : mg = -1 := by (rw [hmg]; unfold S_mg; rw [if_neg (fun q => by omega)])
    all_goals have hp1 : pm = 0 := by (rw [hpm, hm1]; rfl)
    · rw [hp1]
    · rw [hm1, ← h14, u_self]; rfl
    · intro j hj; rw [h76z j hj, hp1]; split <;> rfl
    · intro p hp; rw [h77z p (by omega), if_neg (by omega)]
  · refine R_s (P := (0 ≤ 0 ∧ 0 < ((A 75).length : Int)) ∧ True) (f' := (24, [some (vR 74), some (vR 2), some (vR 20), some (vI Y)], [vI (rd (A 75) 0)], LAY A F, 0, 0)) hc30 4 rfl ⟨⟨by omega, by omega⟩, trivial⟩ ?_
    refine R_if (t := 29) hc30 rfl rfl (fun (c3 : ¬ rd (A 75) 0 = 0) => ?_) (fun (c3 : ¬ (¬ rd (A 75) 0 = 0)) => ?_)
    · refine R_s (P := True) (f' := (30, [some (vR 74), some (vR 2), some (vR 20), some (vI Y)], [vR 2], LAY A F, 0, 0)) hc30 1 rfl trivial ?_
      refine R_cv hc30 rfl rfl (l_clearLine hL hn hn30) (fun r G9 hp9 => ?_)
      obtain ⟨rfl, l11, rfl, hl11, hc11⟩ := hp9
      refine R_s (f' := (33, [some (vR 74), some (vR 2), some (vR 20), some (vI Y)], [], LAY (u A 11 l11) F, 0, 0)) hc30 0 rfl trivial ?_
      refine R_s (P := (0 ≤ 0 ∧ 0 < ((A 23).length : Int)) ∧ True) (f' := (40, [some (vR 74), some (vR 2), some (vR 20), some (vI Y)], [vI (rd (A 23) 0), vR 2], LAY (u A 11 l11) F, 0, 0)) hc30 5 rfl ⟨⟨by omega, by omega⟩, trivial⟩ ?_
      refine R_cv hc30 rfl rfl (l_addLine (A := u A 11 l11) (mk := fun _ => 0) (LENS_u hL (by rw [hl11, h11])) hn hn30 hT (ro := (rd (Q 2) 0).toNat) (by omega) (by omega) hc11 (fun _ _ => .inl rfl) (fun _ _ _ h => h)) (fun r G9 hp9 => ?_)
      obtain ⟨rfl, m11, e11, hm11, hc12⟩ := hp9
      subst e11
      have hc13 : ∀ p : Nat, p < n → rd m11 p = rq (A 3) 0 (rd (Q 2) 0).toNat p := fun p hp => by
        have z : rd m11 p = if rq (A 3) 0 (rd (Q 2) 0).toNat p = 1 then 1 else 0 := hc12 p hp
        have z2 := rq_01 (P := A 3) (q := 0) (p := (rd (Q 2) 0).toNat) p
        revert z
        split <;> omega
      refine R_s (f' := (43, [some (vR 74), some (vR 2), some (vR 20), some (vI Y)], [], LAY (u A 11 m11) F, 0, 0)) hc30 0 rfl trivial ?_
      refine R_s (P := True) (f' := (45, [some (vR 74), some (vR 2), some (vR 20), some (vI Y)], [vR 2, vR 74], LAY (u A 11 m11) F, 0, 0)) hc30 2 rfl trivial ?_
      refine R_cv hc30 rfl rfl (l_firstBornMarked (A := u A 11 m11) (mk := fun p => rq (A 3) 0 (rd (Q 2) 0).toNat p) (LENS_u hL (by rw [hm11, h11])) hn hn30 hal ha hc13 (fun p _ => rq_01 p)) (fun r G9 hp9 => ?_)
      obtain ⟨e1, rfl⟩ := hp9
      have hm2 : mg = fb (fun p => rq (A 3) 0 (rd (Q 2) 0).toNat p * al p) (A 4) n := by
        rw [hmg]
        unfold S_mg
        rw [if_pos ⟨by omega, by omega⟩]
      rw [show fb (fun p => (fun p => rq (A 3) 0 (rd (Q 2) 0).toNat p) p * al p) (u A 11 m11 4) n = mg from hm2.symm] at e1
      subst e1
      have hbd : -1 ≤ mg ∧ mg < n := by
        rw [hm2]
        exact fb_bd _ _ _
      have hpr : 0 ≤ Y * rd (A 22) 0 ∧ Y * rd (A 22) 0 ≤ Y * 100 := ⟨Int.mul_nonneg hY.1 (by omega), Int.mul_le_mul_of_nonneg_left (by omega) hY.1⟩
      refine R_s (f' := (48, [some (vR 74), some (vR 2), some (vR 20), some (vI Y)], [vI mg, vR 74], LAY (u A 11 m11) F, 0, 0)) hc30 0 rfl trivial ?_
      refine R_s (P := True) (f' := (56, [some (vR 74), some (vR 2), some (vR 20), some (vI Y)], [vI mg, vR 2], LAY (u A 11 m11) (u F 14 mg), 0, 0)) hc30 4 rfl trivial ?_
      refine R_cv hc30 rfl rfl ?_ (fun r G h => h)
      refine R_s (P := True) (f' := (1, [some (vR 2), some (vI mg)], [vI mg], LAY (u A 11 m11) (u F 14 mg), 0, 0)) hc5 1 rfl trivial ?_
      refine R_if (t := 16) hc5 rfl rfl (fun (c4 : mg < 0) => ?_) (fun (c4 : ¬ (mg < 0)) => ?_)
      · refine R_s (P := True) (f' := (17, [some (vR 2), some (vI mg)], [vI 0], LAY (u A 11 m11) (u F 14 mg), 0, 0)) hc5 1 rfl trivial ?_
        refine R_retz hc5 rfl rfl (Or.inl rfl) ?_
        refine R_s (f' := (59, [some (vR 74), some (vR 2), some (vR 20), some (vI Y)], [vI 0], LAY (u A 11 m11) (u F 14 mg), 0, 0)) hc30 0 rfl trivial ?_
        refine R_if (t := 64) hc30 rfl rfl (fun (z : ¬ 0 = 0) => absurd z (by decide)) (fun (_ : ¬ (¬ 0 = 0)) => ?_)
        refine R_s (P := True) (f' := (63, [some (vR 74), some (vR 2), some (vR 20), some (vI Y)], [vI 0], LAY (u A 11 m11) (u F 14 mg), 0, 0)) hc30 1 rfl trivial ?_
        refine R_reti hc30 rfl rfl ⟨?_, m11, A 76, A 77, rfl, hm11, h76, h77, ?_, ?_⟩
        all_goals have hm1 : mg = -1 := by omega
        all_goals have hp1 : pm = 0 := by (rw [hpm, hm1]; rfl)
        · rw [hp1]
        · intro j hj; rw [h76z j hj, hp1]; split <;> rfl
        · intro p hp; rw [h77z p (by omega), if_neg (by omega)]
      · refine R_s (P := True) (f' := (9, [some (vR 2), some (vI mg)], [vI (F 3), vI mg], LAY (u A 11 m11) (u F 14 mg), 0, 0)) hc5 3 rfl trivial ?_
        refine R_ic (t := 16) hc5 rfl rfl (fun (c5 : F 3 ≤ mg) => ?_) (fun (c5 : ¬ (F 3 ≤ mg)) => ?_)
        · refine R_s (P := True) (f' := (17, [some (vR 2), some (vI mg)], [vI 0], LAY (u A 11 m11) (u F 14 mg), 0, 0)) hc5 1 rfl trivial ?_
          refine R_retz hc5 rfl rfl (Or.inl rfl) ?_
          refine R_s (f' := (59, [some (vR 74), some (vR 2), some (vR 20), some (vI Y)], [vI 0], LAY (u A 11 m11) (u F 14 mg), 0, 0)) hc30 0 rfl trivial ?_
          refine R_if (t := 64) hc30 rfl rfl (fun (z : ¬ 0 = 0) => absurd z (by decide)) (fun (_ : ¬ (¬ 0 = 0)) => ?_)
          refine R_s (P := True) (f' := (63, [some (vR 74), some (vR 2), some (vR 20), some (vI Y)], [vI 0], LAY (u A 11 m11) (u F 14 mg), 0, 0)) hc30 1 rfl trivial ?_
          refine R_reti hc30 rfl rfl ⟨?_, m11, A 76, A 77, rfl, hm11, h76, h77, ?_, ?_⟩
          all_goals have hm1 : mg = -1 := by omega
          all_goals have hp1 : pm = 0 := by (rw [hpm, hm1]; rfl)
          · rw [hp1]
          · intro j hj; rw [h76z j hj, hp1]; split <;> rfl
          · intro p hp; rw [h77z p (by omega), if_neg (by omega)]
        · refine R_s (P := True) (f' := (17, [some (vR 2), some (vI mg)], [vI 1], LAY (u A 11 m11) (u F 14 mg), 0, 0)) hc5 2 rfl trivial ?_
          refine R_retz hc5 rfl rfl (Or.inr rfl) ?_
          refine R_s (f' := (59, [some (vR 74), some (vR 2), some (vR 20), some (vI Y)], [vI 1], LAY (u A 11 m11) (u F 14 mg), 0, 0)) hc30 0 rfl trivial ?_
          refine R_if (t := 64) hc30 rfl rfl (fun (_ : ¬ 1 = 0) => ?_) (fun (z : ¬ (¬ 1 = 0)) => absurd (by decide) z)
          refine R_s (P := (0 ≤ 0 ∧ 0 < ((A 22).length : Int)) ∧ inI (Y * (rd (A 22) 0)) ∧ (0 ≤ Y * (rd (A 22) 0) ∧ 0 < 100) ∧ (0 ≤ 0 ∧ 0 < ((A 76).length : Int)) ∧ (0 ≤ 0 ∧ 0 < ((wr (A 76) 0 ((Y * (rd (A 22) 0)) / 100)).length : Int)) ∧ (0 ≤ mg ∧ mg < ((A 77).length : Int)) ∧ (0 ≤ 0 ∧ 0 < ((wr (A 76) 0 ((Y * (rd (A 22) 0)) / 100)).length : Int)) ∧ True) (f' := (102, [some (vR 74), some (vR 2), some (vR 20), some (vI Y)], [vI (rd (wr (A 76) 0 ((Y * (rd (A 22) 0)) / 100)) 0)], LAY (u (u (u A 11 m11) 76 (wr (A 76) 0 ((Y * (rd (A 22) 0)) / 100))) 77 (wr (A 77) mg (rd (wr (A 76) 0 ((Y * (rd (A 22) 0)) / 100)) 0))) (u F 14 mg), 0, 0)) hc30 25 rfl ⟨⟨by omega, by omega⟩, ⟨by omega, by omega⟩, ⟨by omega, by omega⟩, ⟨by omega, by omega⟩, ⟨by omega, by simp only [wr_len]; omega⟩, ⟨by omega, by omega⟩, ⟨by omega, by simp only [wr_len]; omega⟩, trivial⟩ ?_
          refine R_reti hc30 rfl rfl ⟨?_, m11, wr (A 76) 0 (Y * rd (A 22) 0 / 100), wr (A 77) mg (rd (wr (A 76) 0 (Y * rd (A 22) 0 / 100)) 0), rfl, hm11, by rw [wr_len]; exact h76, by rw [wr_len]; exact h77, ?_, ?_⟩
          all_goals have hp1 : (Y * rd (A 22) 0 / 100) = pm := by (rw [hpm]; unfold S_pm; rw [if_neg (by omega), k1])
          all_goals rw [hp1]
          · rw [rd_wr_s (by omega) (by omega)]
          · intro j hj
            rw [rd_wr (by omega) (by omega) (by omega), h76z j hj]
            (repeat' split) <;> first | rfl | omega
          · intro p hp
            rw [rd_wr_s (l := A 76) (by omega) (by omega), rd_wr (by omega) (by omega) (by omega), h77z p (by omega)]
            (repeat' split) <;> first | rfl | omega
    · refine R_s (P := True) (f' := (28, [some (vR 74), some (vR 2), some (vR 20), some (vI Y)], [vI 0], LAY A F, 0, 0)) hc30 1 rfl trivial ?_
      refine R_reti hc30 rfl rfl ⟨?_, A 11, A 76, A 77, ?_, h11, h76, h77, ?_, ?_⟩
      all_goals have hm1 : mg = -1 := by (rw [hmg]; unfold S_mg; rw [if_neg (fun q => by omega)])
      all_goals have hp1 : pm = 0 := by (rw [hpm, hm1]; rfl)
      · rw [hp1]
      · rw [hm1, ← h14, u_self]; rfl
      · intro j hj; rw [h76z j hj, hp1]; split <;> rfl
      · intro p hp; rw [h77z p (by omega), if_neg (by omega)]
