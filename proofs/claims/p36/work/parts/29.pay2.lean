theorem l_payFixed0 {A : Nat → List Int} {F : Nat → Int} {n : Nat} (hL : LENS A) (hn : (n : Int) = F 3) (hn30 : n ≤ 30) {Q : Nat → List Int} {e : Nat} (hQ : QOK n Q e) (hF : F 8 = e) (q0 : A 21 = Q 0) (q1 : A 22 = Q 1) (q2 : A 23 = Q 2) (q3 : A 24 = Q 3) (q4 : A 25 = Q 4) (q5 : A 26 = Q 5) (q6 : A 27 = Q 6) (q7 : A 28 = Q 7) {r0 : Int} (hr0 : 0 ≤ r0 ∧ r0 ≤ 99990) {so : Nat → Int} (hso : ∀ i : Nat, i < e → rd (A 75) i = so i) (hso1 : ∀ i : Nat, so i = 0 ∨ so i = 1) : R 31 (0, L0 31 [vR 74, vR 20, vI r0], [], LAY A F, 0, 0) (fun r G => r = some (vI (S_fx Q so r0 e)) ∧ ∃ l76, G = LAY (u A 76 l76) F ∧ l76.length = 6 ∧ ∀ j : Nat, j < 6 → rd l76 j = if j < e ∧ so j = 1 ∧ rd (Q 0) j = 0 then S_fe Q so (S_fx Q so r0 j) j else rd (A 76) j) := by
  have h75 : (A 75).length = 6 := hL 75 (by decide)
  have h76 : (A 76).length = 6 := hL 76 (by decide)
  have d0 : (A 21).length = 6 := hL 21 (by decide)
  have d1 : (A 22).length = 6 := hL 22 (by decide)
  have d2 : (A 23).length = 6 := hL 23 (by decide)
  have d3 : (A 24).length = 6 := hL 24 (by decide)
  have d4 : (A 25).length = 6 := hL 25 (by decide)
  have d5 : (A 26).length = 6 := hL 26 (by decide)
  have d6 : (A 27).length = 6 := hL 27 (by decide)
  have d7 : (A 28).length = 6 := hL 28 (by decide)
  have he1 := hQ.1
  have he2 := hQ.2.1
  have lp : ∀ (m i : Nat) (x : Int) (rest : Int) (l : List Int), x = (i : Int) → l.length = 6 → rest = S_fx Q so r0 i → (∀ j : Nat, j < 6 → rd l j = if j < i ∧ so j = 1 ∧ rd (Q 0) j = 0 then S_fe Q so (S_fx Q so r0 j) j else rd (A 76) j) → i ≤ e → e + 1 ≤ i + m → R 31 (5, [some (vR 74), some (vR 20), some (vI r0), some (vI rest), some (vI x)], [], LAY (u A 76 l) F, 0, 0) (fun r G => r = some (vI (S_fx Q so r0 e)) ∧ ∃ l76, G = LAY (u A 76 l76) F ∧ l76.length = 6 ∧ ∀ j : Nat, j < 6 → rd l76 j = if j < e ∧ so j = 1 ∧ rd (Q 0) j = 0 then S_fe Q so (S_fx Q so r0 j) j else rd (A 76) j) := by
    intro m
    induction m with
    | zero =>
      intro i x rest l ex hl hr hz hi hm
      exact absurd hm (by omega)
    | succ m ih =>
      intro i x rest l ex hl hr hz hi hm
      have k0 : rd (A 21) x = rd (Q 0) i := by rw [q0, ex]
      have k1 : rd (A 22) x = rd (Q 1) i := by rw [q1, ex]
      have ks : i < e → rd (A 75) x = so i := fun q => by rw [ex]; exact hso i q
      have hs1 := hso1 i
      have hk1 : i < e → rd (Q 0) i = 0 → 0 ≤ rd (Q 1) i ∧ rd (Q 1) i ≤ 9999 := fun q1 q2 => by have z := (hQ.2.2.2 i q1).2.2.2.1; omega
      have hfx := S_fx_bd (Q := Q) (so := so) hr0.1 i (fun j hj hj2 => by have z := (hQ.2.2.2 j (by omega)).2.2.2.1; omega)
      have hfe : i < e → 0 ≤ S_fe Q so (S_fx Q so r0 i) i ∧ S_fe Q so (S_fx Q so r0 i) i ≤ S_fx Q so r0 i := fun q => S_fe_bd hfx.1 (fun q2 => (hk1 q q2).1)
      have km : i < e → so i = 1 → rd (Q 0) i = 0 → mnI (rd (A 22) x) rest = S_fe Q so (S_fx Q so r0 i) i := fun q q1 q2 => by have a1 : so i = 1 ∧ rd (Q 0) i = 0 := ⟨q1, q2⟩; unfold mnI S_fe; rw [if_pos a1, k1, hr]; split <;> split <;> omega
      refine R_s (P := True) (f' := (11, [some (vR 74), some (vR 20), some (vI r0), some (vI rest), some (vI x)], [vI (F 8), vI x], LAY (u A 76 l) F, 0, 0)) hc31 3 rfl trivial ?_
      refine R_ic (t := 68) hc31 rfl rfl (fun (c1 : F 8 ≤ x) => ?_) (fun (c1 : ¬ (F 8 ≤ x)) => ?_)
      · refine R_s (P := True) (f' := (69, [some (vR 74), some (vR 20), some (vI r0), some (vI rest), some (vI x)], [vI rest], LAY (u A 76 l) F, 0, 0)) hc31 1 rfl trivial ?_
        exact R_reti hc31 rfl rfl ⟨by rw [hr, show i = e by omega], l, rfl, hl, fun j hj => by rw [hz j hj, show i = e by omega]⟩
      · refine R_s (P := (0 ≤ x ∧ x < ((A 75).length : Int)) ∧ True) (f' := (21, [some (vR 74), some (vR 20), some (vI r0), some (vI rest), some (vI x)], [vI (rd (A 75) x)], LAY (u A 76 l) F, 0, 0)) hc31 4 rfl ⟨⟨by omega, by omega⟩, trivial⟩ ?_
        refine R_if (t := 62) hc31 rfl rfl (fun (c2 : rd (A 75) x = 0) => ?_) (fun (c2 : ¬ (rd (A 75) x = 0)) => ?_)
        · refine R_s (P := inI (x + 1) ∧ True) (f' := (5, [some (vR 74), some (vR 20), some (vI r0), some (vI rest), some (vI (x + 1))], [], LAY (u A 76 l) F, 0, 0)) hc31 2 rfl ⟨⟨by omega, by omega⟩, trivial⟩ ?_
          refine ih (i + 1) _ _ _ (by omega) hl ?_ (fun j hj => ?_) (by omega) (by omega)
          · rw [hr]
            simp only [S_fx]
            rw [show S_fe Q so (S_fx Q so r0 i) i = 0 by (unfold S_fe; rw [if_neg (fun q => by omega)])]
            omega
          · rw [hz j hj]
            by_cases e3 : j < i
            · have e4 : j < i + 1 := by omega
              simp only [e3, e4, true_and]
            · rw [if_neg (fun q => e3 q.1), if_neg]
              intro q
              have e2 : j = i := by omega
              subst e2
              omega
        · refine R_s (P := (0 ≤ x ∧ x < ((A 21).length : Int)) ∧ True) (f' := (31, [some (vR 74), some (vR 20), some (vI r0), some (vI rest), some (vI x)], [vI (rd (A 21) x)], LAY (u A 76 l) F, 0, 0)) hc31 4 rfl ⟨⟨by omega, by omega⟩, trivial⟩ ?_
          refine R_if (t := 62) hc31 rfl rfl (fun (c3 : ¬ rd (A 21) x = 0) => ?_) (fun (c3 : ¬ (¬ rd (A 21) x = 0)) => ?_)
          · refine R_s (P := inI (x + 1) ∧ True) (f' := (5, [some (vR 74), some (vR 20), some (vI r0), some (vI rest), some (vI (x + 1))], [], LAY (u A 76 l) F, 0, 0)) hc31 2 rfl ⟨⟨by omega, by omega⟩, trivial⟩ ?_
            refine ih (i + 1) _ _ _ (by omega) hl ?_ (fun j hj => ?_) (by omega) (by omega)
            · rw [hr]
              simp only [S_fx]
              rw [show S_fe Q so (S_fx Q so r0 i) i = 0 by (unfold S_fe; rw [if_neg (fun q => by omega)])]
              omega
            · rw [hz j hj]
              by_cases e3 : j < i
              · have e4 : j < i + 1 := by omega
                simp only [e3, e4, true_and]
              · rw [if_neg (fun q => e3 q.1), if_neg]
                intro q
                have e2 : j = i := by omega
                subst e2
                omega
          · refine R_s (P := (0 ≤ x ∧ x < ((A 22).length : Int)) ∧ (0 ≤ x ∧ x < ((l).length : Int)) ∧ (0 ≤ x ∧ x < ((wr l x (mnI (rd (A 22) x) rest)).length : Int)) ∧ inI (rest - (rd (wr l x (mnI (rd (A 22) x) rest)) x)) ∧ inI (x + 1) ∧ True) (f' := (5, [some (vR 74), some (vR 20), some (vI r0), some (vI (rest - (rd (wr l x (mnI (rd (A 22) x) rest)) x))), some (vI (x + 1))], [], LAY (u A 76 (wr l x (mnI (rd (A 22) x) rest))) F, 0, 0)) hc31 19 rfl ⟨⟨by omega, by omega⟩, ⟨by omega, by omega⟩, ⟨by omega, by simp only [wr_len]; omega⟩, (by rw [rd_wr_s (by omega) (by omega), km (by omega) (by omega) (by omega)]; have z := hfe (by omega); unfold inI; omega), ⟨by omega, by omega⟩, trivial⟩ ?_
            refine ih (i + 1) _ _ _ (by omega) (by rw [wr_len]; exact hl) ?_ (fun j hj => ?_) (by omega) (by omega)
            · rw [rd_wr_s (by omega) (by omega), km (by omega) (by omega) (by omega), hr]
              rfl
            · rw [rd_wr (by omega) (by omega) (by omega)]
              by_cases e9 : (j : Int) = x
              · have e2 : j = i := by omega
                subst e2
                rw [if_pos e9, if_pos ⟨by omega, by omega, by omega⟩, km (by omega) (by omega) (by omega)]
              · rw [if_neg e9, hz j hj]
                by_cases e3 : j < i
                · have e4 : j < i + 1 := by omega
                  simp only [e3, e4, true_and]
                · have e4 : ¬ j < i + 1 := by omega
                  simp only [e3, e4, false_and]
  refine R_s (P := True) (f' := (0, [some (vR 74), some (vR 20), some (vI r0), none, none], [], LAY (u A 76 (A 76)) F, 0, 0)) hc31 0 (by rw [u_self]; rfl) trivial ?_
  refine R_s (P := True) (f' := (5, [some (vR 74), some (vR 20), some (vI r0), some (vI r0), some (vI 0)], [], LAY (u A 76 (A 76)) F, 0, 0)) hc31 4 rfl trivial ?_
  exact lp (e + 1) 0 _ _ _ rfl h76 rfl (fun j hj => by rw [if_neg (by omega)]) (by omega) (by omega)
theorem l_payManager1 {A : Nat → List Int} {F : Nat → Int} {n : Nat} (hL : LENS A) (hn : (n : Int) = F 3) (hn30 : n ≤ 30) (hT : TR (A 3) n) {al : Nat → Int} (hal : ∀ p : Nat, p < n → rd (A 8) p = al p) (ha : ∀ p : Nat, p < n → al p = 0 ∨ al p = 1) {Q : Nat → List Int} {e : Nat} (hQ : QOK n Q e) (hF : F 9 = e) (q0 : A 30 = Q 0) (q1 : A 31 = Q 1) (q2 : A 32 = Q 2) (q3 : A 33 = Q 3) (q4 : A 34 = Q 4) (q5 : A 35 = Q 5) (q6 : A 36 = Q 6) (q7 : A 37 = Q 7) {Y : Int} (hY : 0 ≤ Y ∧ Y ≤ 99990) {so : Nat → Int} (hso : ∀ i : Nat, i < e → rd (A 75) i = so i) (hso1 : ∀ i : Nat, so i = 0 ∨ so i = 1) (h76z : ∀ j : Nat, j < 6 → rd (A 76) j = 0) (h77z : ∀ p : Nat, p < 30 → rd (A 77) p = 0) (h14 : F 14 = -1) {mg pm : Int} (hmg : mg = S_mg n (A 3) (A 4) al Q so) (hpm : pm = S_pm Y Q mg) : R 30 (0, L0 30 [vR 74, vR 2, vR 29, vI Y], [], LAY A F, 0, 0) (fun r G => r = some (vI pm) ∧ ∃ l11 l76 l77, G = LAY (u (u (u A 11 l11) 76 l76) 77 l77) (u F 14 mg) ∧ l11.length = 30 ∧ l76.length = 6 ∧ l77.length = 30 ∧ (∀ j : Nat, j < 6 → rd l76 j = if j = 0 then pm else 0) ∧ ∀ p : Nat, p < n → rd l77 p = if mg = p then pm else 0) := by
  have h4 : (A 4).length = 30 := hL 4 (by decide)
  have h11 : (A 11).length = 30 := hL 11 (by decide)
  have h75 : (A 75).length = 6 := hL 75 (by decide)
  have h76 : (A 76).length = 6 := hL 76 (by decide)
  have h77 : (A 77).length = 30 := hL 77 (by decide)
  have d0 : (A 30).length = 6 := hL 30 (by decide)
  have d1 : (A 31).length = 6 := hL 31 (by decide)
  have d2 : (A 32).length = 6 := hL 32 (by decide)
  have d3 : (A 33).length = 6 := hL 33 (by decide)
  have d4 : (A 34).length = 6 := hL 34 (by decide)
  have d5 : (A 35).length = 6 := hL 35 (by decide)
  have d6 : (A 36).length = 6 := hL 36 (by decide)
  have d7 : (A 37).length = 6 := hL 37 (by decide)
  have he1 := hQ.1
  have he2 := hQ.2.1
  have hk0 : (rd (Q 0) 0 = 2 → rd (Q 1) 0 ≤ 100) ∧ (rd (Q 0) 0 = 3 ∨ (0 ≤ rd (Q 1) 0 ∧ rd (Q 1) 0 ≤ 9999)) ∧ (rd (Q 0) 0 = 1 ∨ rd (Q 0) 0 = 2 → 0 ≤ rd (Q 2) 0 ∧ rd (Q 2) 0 < n) := by
    have z := hQ.2.2.2 0 (by omega)
    exact ⟨fun q => (z.2.2.1 q).2, z.2.2.2.1, z.2.2.2.2.1⟩
  have hs0 : rd (A 75) 0 = so 0 := hso 0 (by omega)
  have hs1 := hso1 0
  have k0 : rd (A 30) 0 = rd (Q 0) 0 := by rw [q0]
  have k1 : rd (A 31) 0 = rd (Q 1) 0 := by rw [q1]
  have k2 : rd (A 32) 0 = rd (Q 2) 0 := by rw [q2]
  refine R_s (P := True) (f' := (5, [some (vR 74), some (vR 2), some (vR 29), some (vI Y)], [vI 1, vI (F 9)], LAY A F, 0, 0)) hc30 3 rfl trivial ?_
  refine R_ic (t := 27) hc30 rfl rfl (fun (z : F 9 < 1) => absurd z (by omega)) (fun (_ : ¬ (F 9 < 1)) => ?_)
  refine R_s (P := (0 ≤ 0 ∧ 0 < ((A 30).length : Int)) ∧ True) (f' := (15, [some (vR 74), some (vR 2), some (vR 29), some (vI Y)], [vI 2, vI (rd (A 30) 0)], LAY A F, 0, 0)) hc30 5 rfl ⟨⟨by omega, by omega⟩, trivial⟩ ?_
  refine R_ic (t := 27) hc30 rfl rfl (fun (c2 : ¬ rd (A 30) 0 = 2) => ?_) (fun (c2 : ¬ (¬ rd (A 30) 0 = 2)) => ?_)
  · refine R_s (P := True) (f' := (28, [some (vR 74), some (vR 2), some (vR 29), some (vI Y)], [vI 0], LAY A F, 0, 0)) hc30 1 rfl trivial ?_
    refine R_reti hc30 rfl rfl ⟨?_, A 11, A 76, A 77, ?_, h11, h76, h77, ?_, ?_⟩
    all_goals have hm1 : mg = -1 := by (rw [hmg]; unfold S_mg; rw [if_neg (fun q => by omega)])
    all_goals have hp1 : pm = 0 := by (rw [hpm, hm1]; rfl)
    · rw [hp1]
    · rw [hm1, ← h14, u_self]; rfl
    · intro j hj; rw [h76z j hj, hp1]; split <;> rfl
    · intro p hp; rw [h77z p (by omega), if_neg (by omega)]
  · refine R_s (P := (0 ≤ 0 ∧ 0 < ((A 75).length : Int)) ∧ True) (f' := (24, [some (vR 74), some (vR 2), some (vR 29), some (vI Y)], [vI (rd (A 75) 0)], LAY A F, 0, 0)) hc30 4 rfl ⟨⟨by omega, by omega⟩, trivial⟩ ?_
    refine R_if (t := 29) hc30 rfl rfl (fun (c3 : ¬ rd (A 75) 0 = 0) => ?_) (fun (c3 : ¬ (¬ rd (A 75) 0 = 0)) => ?_)
    · refine R_s (P := True) (f' := (30, [some (vR 74), some (vR 2), some (vR 29), some (vI Y)], [vR 2], LAY A F, 0, 0)) hc30 1 rfl trivial ?_
      refine R_cv hc30 rfl rfl (l_clearLine hL hn hn30) (fun r G9 hp9 => ?_)
      obtain ⟨rfl, l11, rfl, hl11, hc11⟩ := hp9
      refine R_s (f' := (33, [some (vR 74), some (vR 2), some (vR 29), some (vI Y)], [], LAY (u A 11 l11) F, 0, 0)) hc30 0 rfl trivial ?_
      refine R_s (P := (0 ≤ 0 ∧ 0 < ((A 32).length : Int)) ∧ True) (f' := (40, [some (vR 74), some (vR 2), some (vR 29), some (vI Y)], [vI (rd (A 32) 0), vR 2], LAY (u A 11 l11) F, 0, 0)) hc30 5 rfl ⟨⟨by omega, by omega⟩, trivial⟩ ?_
      refine R_cv hc30 rfl rfl (l_addLine (A := u A 11 l11) (mk := fun _ => 0) (LENS_u hL (by rw [hl11, h11])) hn hn30 hT (ro := (rd (Q 2) 0).toNat) (by omega) (by omega) hc11 (fun _ _ => .inl rfl) (fun _ _ _ h => h)) (fun r G9 hp9 => ?_)
      obtain ⟨rfl, m11, e11, hm11, hc12⟩ := hp9
      subst e11
      have hc13 : ∀ p : Nat, p < n → rd m11 p = rq (A 3) 0 (rd (Q 2) 0).toNat p := fun p hp => by
        have z : rd m11 p = if rq (A 3) 0 (rd (Q 2) 0).toNat p = 1 then 1 else 0 := hc12 p hp
        have z2 := rq_01 (P := A 3) (q := 0) (p := (rd (Q 2) 0).toNat) p
        revert z
        split <;> omega
      refine R_s (f' := (43, [some (vR 74), some (vR 2), some (vR 29), some (vI Y)], [], LAY (u A 11 m11) F, 0, 0)) hc30 0 rfl trivial ?_
      refine R_s (P := True) (f' := (45, [some (vR 74), some (vR 2), some (vR 29), some (vI Y)], [vR 2, vR 74], LAY (u A 11 m11) F, 0, 0)) hc30 2 rfl trivial ?_
      refine R_cv hc30 rfl rfl (l_firstBornMarked (A := u A 11 m11) (mk := fun p => rq (A 3) 0 (rd (Q 2) 0).toNat p) (LENS_u hL (by rw [hm11, h11])) hn hn30 hal ha hc13 (fun p _ => rq_01 p)) (fun r G9 hp9 => ?_)
      obtain ⟨e1, rfl⟩ := hp9
      have hm2 : mg = fb (fun p => rq (A 3) 0 (rd (Q 2) 0).toNat p * al p) (A 4) n := by
        rw [hmg]
        unfold S_mg
        rw [if_pos ⟨by omega, by omega⟩]
      rw [show fb (fun p => (fun p => rq (A 3) 0 (rd (Q 2) 0).toNat p) p * al p) (u A 11 m11 4) n = mg from hm2.symm] at e1
      subst e1
      have hbd : -1 ≤ mg ∧ mg < n := by
        rw [hm2]
        exact fb_bd _ _ _
      have hpr : 0 ≤ Y * rd (A 31) 0 ∧ Y * rd (A 31) 0 ≤ Y * 100 := ⟨Int.mul_nonneg hY.1 (by omega), Int.mul_le_mul_of_nonneg_left (by omega) hY.1⟩
      refine R_s (f' := (48, [some (vR 74), some (vR 2), some (vR 29), some (vI Y)], [vI mg, vR 74], LAY (u A 11 m11) F, 0, 0)) hc30 0 rfl trivial ?_
      refine R_s (P := True) (f' := (56, [some (vR 74), some (vR 2), some (vR 29), some (vI Y)], [vI mg, vR 2], LAY (u A 11 m11) (u F 14 mg), 0, 0)) hc30 4 rfl trivial ?_
      refine R_cv hc30 rfl rfl ?_ (fun r G h => h)
      refine R_s (P := True) (f' := (1, [some (vR 2), some (vI mg)], [vI mg], LAY (u A 11 m11) (u F 14 mg), 0, 0)) hc5 1 rfl trivial ?_
      refine R_if (t := 16) hc5 rfl rfl (fun (c4 : mg < 0) => ?_) (fun (c4 : ¬ (mg < 0)) => ?_)
      · refine R_s (P := True) (f' := (17, [some (vR 2), some (vI mg)], [vI 0], LAY (u A 11 m11) (u F 14 mg), 0, 0)) hc5 1 rfl trivial ?_
        refine R_retz hc5 rfl rfl (Or.inl rfl) ?_
        refine R_s (f' := (59, [some (vR 74), some (vR 2), some (vR 29), some (vI Y)], [vI 0], LAY (u A 11 m11) (u F 14 mg), 0, 0)) hc30 0 rfl trivial ?_
        refine R_if (t := 64) hc30 rfl rfl (fun (z : ¬ 0 = 0) => absurd z (by decide)) (fun (_ : ¬ (¬ 0 = 0)) => ?_)
        refine R_s (P := True) (f' := (63, [some (vR 74), some (vR 2), some (vR 29), some (vI Y)], [vI 0], LAY (u A 11 m11) (u F 14 mg), 0, 0)) hc30 1 rfl trivial ?_
        refine R_reti hc30 rfl rfl ⟨?_, m11, A 76, A 77, rfl, hm11, h76, h77, ?_, ?_⟩
        all_goals have hm1 : mg = -1 := by omega
        all_goals have hp1 : pm = 0 := by (rw [hpm, hm1]; rfl)
        · rw [hp1]
        · intro j hj; rw [h76z j hj, hp1]; split <;> rfl
        · intro p hp; rw [h77z p (by omega), if_neg (by omega)]
      · refine R_s (P := True) (f' := (9, [some (vR 2), some (vI mg)], [vI (F 3), vI mg], LAY (u A 11 m11) (u F 14 mg), 0, 0)) hc5 3 rfl trivial ?_
        refine R_ic (t := 16) hc5 rfl rfl (fun (c5 : F 3 ≤ mg) => ?_) (fun (c5 : ¬ (F 3 ≤ mg)) => ?_)
        · refine R_s (P := True) (f' := (17, [some (vR 2), some (vI mg)], [vI 0], LAY (u A 11 m11) (u F 14 mg), 0, 0)) hc5 1 rfl trivial ?_
          refine R_retz hc5 rfl rfl (Or.inl rfl) ?_
          refine R_s (f' := (59, [some (vR 74), some (vR 2), some (vR 29), some (vI Y)], [vI 0], LAY (u A 11 m11) (u F 14 mg), 0, 0)) hc30 0 rfl trivial ?_
          refine R_if (t := 64) hc30 rfl rfl (fun (z : ¬ 0 = 0) => absurd z (by decide)) (fun (_ : ¬ (¬ 0 = 0)) => ?_)
          refine R_s (P := True) (f' := (63, [some (vR 74), some (vR 2), some (vR 29), some (vI Y)], [vI 0], LAY (u A 11 m11) (u F 14 mg), 0, 0)) hc30 1 rfl trivial ?_
          refine R_reti hc30 rfl rfl ⟨?_, m11, A 76, A 77, rfl, hm11, h76, h77, ?_, ?_⟩
          all_goals have hm1 : mg = -1 := by omega
          all_goals have hp1 : pm = 0 := by (rw [hpm, hm1]; rfl)
          · rw [hp1]
          · intro j hj; rw [h76z j hj, hp1]; split <;> rfl
          · intro p hp; rw [h77z p (by omega), if_neg (by omega)]
        · refine R_s (P := True) (f' := (17, [some (vR 2), some (vI mg)], [vI 1], LAY (u A 11 m11) (u F 14 mg), 0, 0)) hc5 2 rfl trivial ?_
          refine R_retz hc5 rfl rfl (Or.inr rfl) ?_
          refine R_s (f' := (59, [some (vR 74), some (vR 2), some (vR 29), some (vI Y)], [vI 1], LAY (u A 11 m11) (u F 14 mg), 0, 0)) hc30 0 rfl trivial ?_
          refine R_if (t := 64) hc30 rfl rfl (fun (_ : ¬ 1 = 0) => ?_) (fun (z : ¬ (¬ 1 = 0)) => absurd (by decide) z)
          refine R_s (P := (0 ≤ 0 ∧ 0 < ((A 31).length : Int)) ∧ inI (Y * (rd (A 31) 0)) ∧ (0 ≤ Y * (rd (A 31) 0) ∧ 0 < 100) ∧ (0 ≤ 0 ∧ 0 < ((A 76).length : Int)) ∧ (0 ≤ 0 ∧ 0 < ((wr (A 76) 0 ((Y * (rd (A 31) 0)) / 100)).length : Int)) ∧ (0 ≤ mg ∧ mg < ((A 77).length : Int)) ∧ (0 ≤ 0 ∧ 0 < ((wr (A 76) 0 ((Y * (rd (A 31) 0)) / 100)).length : Int)) ∧ True) (f' := (102, [some (vR 74), some (vR 2), some (vR 29), some (vI Y)], [vI (rd (wr (A 76) 0 ((Y * (rd (A 31) 0)) / 100)) 0)], LAY (u (u (u A 11 m11) 76 (wr (A 76) 0 ((Y * (rd (A 31) 0)) / 100))) 77 (wr (A 77) mg (rd (wr (A 76) 0 ((Y * (rd (A 31) 0)) / 100)) 0))) (u F 14 mg), 0, 0)) hc30 25 rfl ⟨⟨by omega, by omega⟩, ⟨by omega, by omega⟩, ⟨by omega, by omega⟩, ⟨by omega, by omega⟩, ⟨by omega, by simp only [wr_len]; omega⟩, ⟨by omega, by omega⟩, ⟨by omega, by simp only [wr_len]; omega⟩, trivial⟩ ?_
          refine R_reti hc30 rfl rfl ⟨?_, m11, wr (A 76) 0 (Y * rd (A 31) 0 / 100), wr (A 77) mg (rd (wr (A 76) 0 (Y * rd (A 31) 0 / 100)) 0), rfl, hm11, by rw [wr_len]; exact h76, by rw [wr_len]; exact h77, ?_, ?_⟩
          all_goals have hp1 : (Y * rd (A 31) 0 / 100) = pm := by (rw [hpm]; unfold S_pm; rw [if_neg (by omega), k1])
          all_goals rw [hp1]
          · rw [rd_wr_s (by omega) (by omega)]
          · intro j hj
            rw [rd_wr (by omega) (by omega) (by omega), h76z j hj]
            (repeat' split) <;> first | rfl | omega
          · intro p hp
            rw [rd_wr_s (l := A 76) (by omega) (by omega), rd_wr (by omega) (by omega) (by omega), h77z p (by omega)]
            (repeat' split) <;> first | rfl | omega
    · refine R_s (P := True) (f' := (28, [some (vR 74), some (vR 2), some (vR 29), some (vI Y)], [vI 0], LAY A F, 0, 0)) hc30 1 rfl trivial ?_
      refine R_reti hc30 rfl rfl ⟨?_, A 11, A 76, A 77, ?_, h11, h76, h77, ?_, ?_⟩
      all_goals have hm1 : mg = -1 := by (rw [hmg]; unfold S_mg; rw [if_neg (fun q => by omega)])
      all_goals have hp1 : pm = 0 := by (rw [hpm, hm1]; rfl)
      · rw [hp1]
      · rw [hm1, ← h14, u_self]; rfl
      · intro j hj; rw [h76z j hj, hp1]; split <;> rfl
      · intro p hp; rw [h77z p (by omega), if_neg (by omega)]
theorem l_payFixed1 {A : Nat → List Int} {F : Nat → Int} {n : Nat} (hL : LENS A) (hn : (n : Int) = F 3) (hn30 : n ≤ 30) {Q : Nat → List Int} {e : Nat} (hQ : QOK n Q e) (hF : F 9 = e) (q0 : A 30 = Q 0) (q1 : A 31 = Q 1) (q2 : A 32 = Q 2) (q3 : A 33 = Q 3) (q4 : A 34 = Q 4) (q5 : A 35 = Q 5) (q6 : A 36 = Q 6) (q7 : A 37 = Q 7) {r0 : Int} (hr0 : 0 ≤ r0 ∧ r0 ≤ 99990) {so : Nat → Int} (hso : ∀ i : Nat, i < e → rd (A 75) i = so i) (hso1 : ∀ i : Nat, so i = 0 ∨ so i = 1) : R 31 (0, L0 31 [vR 74, vR 29, vI r0], [], LAY A F, 0, 0) (fun r G => r = some (vI (S_fx Q so r0 e)) ∧ ∃ l76, G = LAY (u A 76 l76) F ∧ l76.length = 6 ∧ ∀ j : Nat, j < 6 → rd l76 j = if j < e ∧ so j = 1 ∧ rd (Q 0) j = 0 then S_fe Q so (S_fx Q so r0 j) j else rd (A 76) j) := by
  have h75 : (A 75).length = 6 := hL 75 (by decide)
  have h76 : (A 76).length = 6 := hL 76 (by decide)
  have d0 : (A 30).length = 6 := hL 30 (by decide)
  have d1 : (A 31).length = 6 := hL 31 (by decide)
  have d2 : (A 32).length = 6 := hL 32 (by decide)
  have d3 : (A 33).length = 6 := hL 33 (by decide)
  have d4 : (A 34).length = 6 := hL 34 (by decide)
  have d5 : (A 35).length = 6 := hL 35 (by decide)
  have d6 : (A 36).length = 6 := hL 36 (by decide)
  have d7 : (A 37).length = 6 := hL 37 (by decide)
  have he1 := hQ.1
  have he2 := hQ.2.1
  have lp : ∀ (m i : Nat) (x : Int) (rest : Int) (l : List Int), x = (i : Int) → l.length = 6 → rest = S_fx Q so r0 i → (∀ j : Nat, j < 6 → rd l j = if j < i ∧ so j = 1 ∧ rd (Q 0) j = 0 then S_fe Q so (S_fx Q so r0 j) j else rd (A 76) j) → i ≤ e → e + 1 ≤ i + m → R 31 (5, [some (vR 74), some (vR 29), some (vI r0), some (vI rest), some (vI x)], [], LAY (u A 76 l) F, 0, 0) (fun r G => r = some (vI (S_fx Q so r0 e)) ∧ ∃ l76, G = LAY (u A 76 l76) F ∧ l76.length = 6 ∧ ∀ j : Nat, j < 6 → rd l76 j = if j < e ∧ so j = 1 ∧ rd (Q 0) j = 0 then S_fe Q so (S_fx Q so r0 j) j else rd (A 76) j) := by
    intro m
    induction m with
    | zero =>
      intro i x rest l ex hl hr hz hi hm
      exact absurd hm (by omega)
    | succ m ih =>
      intro i x rest l ex hl hr hz hi hm
      have k0 : rd (A 30) x = rd (Q 0) i := by rw [q0, ex]
      have k1 : rd (A 31) x = rd (Q 1) i := by rw [q1, ex]
      have ks : i < e → rd (A 75) x = so i := fun q => by rw [ex]; exact hso i q
      have hs1 := hso1 i
      have hk1 : i < e → rd (Q 0) i = 0 → 0 ≤ rd (Q 1) i ∧ rd (Q 1) i ≤ 9999 := fun q1 q2 => by have z := (hQ.2.2.2 i q1).2.2.2.1; omega
      have hfx := S_fx_bd (Q := Q) (so := so) hr0.1 i (fun j hj hj2 => by have z := (hQ.2.2.2 j (by omega)).2.2.2.1; omega)
      have hfe : i < e → 0 ≤ S_fe Q so (S_fx Q so r0 i) i ∧ S_fe Q so (S_fx Q so r0 i) i ≤ S_fx Q so r0 i := fun q => S_fe_bd hfx.1 (fun q2 => (hk1 q q2).1)
      have km : i < e → so i = 1 → rd (Q 0) i = 0 → mnI (rd (A 31) x) rest = S_fe Q so (S_fx Q so r0 i) i := fun q q1 q2 => by have a1 : so i = 1 ∧ rd (Q 0) i = 0 := ⟨q1, q2⟩; unfold mnI S_fe; rw [if_pos a1, k1, hr]; split <;> split <;> omega
      refine R_s (P := True) (f' := (11, [some (vR 74), some (vR 29), some (vI r0), some (vI rest), some (vI x)], [vI (F 9), vI x], LAY (u A 76 l) F, 0, 0)) hc31 3 rfl trivial ?_
      refine R_ic (t := 68) hc31 rfl rfl (fun (c1 : F 9 ≤ x) => ?_) (fun (c1 : ¬ (F 9 ≤ x)) => ?_)
      · refine R_s (P := True) (f' := (69, [some (vR 74), some (vR 29), some (vI r0), some (vI rest), some (vI x)], [vI rest], LAY (u A 76 l) F, 0, 0)) hc31 1 rfl trivial ?_
        exact R_reti hc31 rfl rfl ⟨by rw [hr, show i = e by omega], l, rfl, hl, fun j hj => by rw [hz j hj, show i = e by omega]⟩
      · refine R_s (P := (0 ≤ x ∧ x < ((A 75).length : Int)) ∧ True) (f' := (21, [some (vR 74), some (vR 29), some (vI r0), some (vI rest), some (vI x)], [vI (rd (A 75) x)], LAY (u A 76 l) F, 0, 0)) hc31 4 rfl ⟨⟨by omega, by omega⟩, trivial⟩ ?_
        refine R_if (t := 62) hc31 rfl rfl (fun (c2 : rd (A 75) x = 0) => ?_) (fun (c2 : ¬ (rd (A 75) x = 0)) => ?_)
        · refine R_s (P := inI (x + 1) ∧ True) (f' := (5, [some (vR 74), some (vR 29), some (vI r0), some (vI rest), some (vI (x + 1))], [], LAY (u A 76 l) F, 0, 0)) hc31 2 rfl ⟨⟨by omega, by omega⟩, trivial⟩ ?_
          refine ih (i + 1) _ _ _ (by omega) hl ?_ (fun j hj => ?_) (by omega) (by omega)
          · rw [hr]
            simp only [S_fx]
            rw [show S_fe Q so (S_fx Q so r0 i) i = 0 by (unfold S_fe; rw [if_neg (fun q => by omega)])]
            omega
          · rw [hz j hj]
            by_cases e3 : j < i
            · have e4 : j < i + 1 := by omega
              simp only [e3, e4, true_and]
            · rw [if_neg (fun q => e3 q.1), if_neg]
              intro q
              have e2 : j = i := by omega
              subst e2
              omega
        · refine R_s (P := (0 ≤ x ∧ x < ((A 30).length : Int)) ∧ True) (f' := (31, [some (vR 74), some (vR 29), some (vI r0), some (vI rest), some (vI x)], [vI (rd (A 30) x)], LAY (u A 76 l) F, 0, 0)) hc31 4 rfl ⟨⟨by omega, by omega⟩, trivial⟩ ?_
          refine R_if (t := 62) hc31 rfl rfl (fun (c3 : ¬ rd (A 30) x = 0) => ?_) (fun (c3 : ¬ (¬ rd (A 30) x = 0)) => ?_)
          · refine R_s (P := inI (x + 1) ∧ True) (f' := (5, [some (vR 74), some (vR 29), some (vI r0), some (vI rest), some (vI (x + 1))], [], LAY (u A 76 l) F, 0, 0)) hc31 2 rfl ⟨⟨by omega, by omega⟩, trivial⟩ ?_
            refine ih (i + 1) _ _ _ (by omega) hl ?_ (fun j hj => ?_) (by omega) (by omega)
            · rw [hr]
              simp only [S_fx]
              rw [show S_fe Q so (S_fx Q so r0 i) i = 0 by (unfold S_fe; rw [if_neg (fun q => by omega)])]
              omega
            · rw [hz j hj]
              by_cases e3 : j < i
              · have e4 : j < i + 1 := by omega
                simp only [e3, e4, true_and]
              · rw [if_neg (fun q => e3 q.1), if_neg]
                intro q
                have e2 : j = i := by omega
                subst e2
                omega
          · refine R_s (P := (0 ≤ x ∧ x < ((A 31).length : Int)) ∧ (0 ≤ x ∧ x < ((l).length : Int)) ∧ (0 ≤ x ∧ x < ((wr l x (mnI (rd (A 31) x) rest)).length : Int)) ∧ inI (rest - (rd (wr l x (mnI (rd (A 31) x) rest)) x)) ∧ inI (x + 1) ∧ True) (f' := (5, [some (vR 74), some (vR 29), some (vI r0), some (vI (rest - (rd (wr l x (mnI (rd (A 31) x) rest)) x))), some (vI (x + 1))], [], LAY (u A 76 (wr l x (mnI (rd (A 31) x) rest))) F, 0, 0)) hc31 19 rfl ⟨⟨by omega, by omega⟩, ⟨by omega, by omega⟩, ⟨by omega, by simp only [wr_len]; omega⟩, (by rw [rd_wr_s (by omega) (by omega), km (by omega) (by omega) (by omega)]; have z := hfe (by omega); unfold inI; omega), ⟨by omega, by omega⟩, trivial⟩ ?_
            refine ih (i + 1) _ _ _ (by omega) (by rw [wr_len]; exact hl) ?_ (fun j hj => ?_) (by omega) (by omega)
            · rw [rd_wr_s (by omega) (by omega), km (by omega) (by omega) (by omega), hr]
              rfl
            · rw [rd_wr (by omega) (by omega) (by omega)]
              by_cases e9 : (j : Int) = x
              · have e2 : j = i := by omega
                subst e2
                rw [if_pos e9, if_pos ⟨by omega, by omega, by omega⟩, km (by omega) (by omega) (by omega)]
              · rw [if_neg e9, hz j hj]
                by_cases e3 : j < i
                · have e4 : j < i + 1 := by omega
                  simp only [e3, e4, true_and]
                · have e4 : ¬ j < i + 1 := by omega
                  simp only [e3, e4, false_and]
  refine R_s (P := True) (f' := (0, [some (vR 74), some (vR 29), some (vI r0), none, none], [], LAY (u A 76 (A 76)) F, 0, 0)) hc31 0 (by rw [u_self]; rfl) trivial ?_
  refine R_s (P := True) (f' := (5, [some (vR 74), some (vR 29), some (vI r0), some (vI r0), some (vI 0)], [], LAY (u A 76 (A 76)) F, 0, 0)) hc31 4 rfl trivial ?_
  exact lp (e + 1) 0 _ _ _ rfl h76 rfl (fun j hj => by rw [if_neg (by omega)]) (by omega) (by omega)
