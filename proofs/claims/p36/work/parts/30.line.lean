theorem l_payLine0 {A : Nat → List Int} {F : Nat → Int} {n : Nat} (hL : LENS A) (hn : (n : Int) = F 3) (hn30 : n ≤ 30) (hT : TR (A 3) n) {al : Nat → Int} (hal : ∀ p : Nat, p < n → rd (A 8) p = al p) (ha : ∀ p : Nat, p < n → al p = 0 ∨ al p = 1) {Q : Nat → List Int} {e : Nat} (hQ : QOK n Q e) (hF : F 8 = e) (q0 : A 21 = Q 0) (q1 : A 22 = Q 1) (q2 : A 23 = Q 2) (q3 : A 24 = Q 3) (q4 : A 25 = Q 4) (q5 : A 26 = Q 5) (q6 : A 27 = Q 6) (q7 : A 28 = Q 7) (hCH : ∀ p : Nat, p < n → rd (A 9) p = CN (A 3) n al p ∧ rd (A 10) p = HR (A 3) n al p) {x : Int} {i : Nat} (ex : x = i) (hi : i < e) (hkd : rd (Q 0) i = 1) {lo : Int} (hlo : 0 ≤ lo ∧ lo ≤ 99990) (h15 : F 15 = lo) (z76 : rd (A 76) i = 0) (b77 : ∀ p : Nat, p < n → 0 ≤ rd (A 77) p ∧ rd (A 77) p ≤ 1000000) : R 32 (0, L0 32 [vR 74, vR 2, vR 20, vI x], [], LAY A F, 0, 0) (fun r G => r = some (vI (S_le n (A 3) al Q lo i)) ∧ ∃ l11 l76 l77 l78, G = LAY (u (u (u (u A 11 l11) 78 l78) 77 l77) 76 l76) F ∧ l11.length = 30 ∧ l76.length = 6 ∧ l77.length = 30 ∧ l78.length = 30 ∧ (∀ j : Nat, j < 6 → rd l76 j = if j = i then S_le n (A 3) al Q lo i else rd (A 76) j) ∧ ∀ p : Nat, p < n → rd l77 p = rd (A 77) p + S_am n (A 3) al Q lo i p) := by
  have h76 : (A 76).length = 6 := hL 76 (by decide)
  have h77 : (A 77).length = 30 := hL 77 (by decide)
  have h78 : (A 78).length = 30 := hL 78 (by decide)
  have d0 : (A 21).length = 6 := hL 21 (by decide)
  have d1 : (A 22).length = 6 := hL 22 (by decide)
  have d2 : (A 23).length = 6 := hL 23 (by decide)
  have d3 : (A 24).length = 6 := hL 24 (by decide)
  have d4 : (A 25).length = 6 := hL 25 (by decide)
  have d5 : (A 26).length = 6 := hL 26 (by decide)
  have d6 : (A 27).length = 6 := hL 27 (by decide)
  have d7 : (A 28).length = 6 := hL 28 (by decide)
  have he1 := hQ.1
  have he2 := hQ.2.1
  have k1 : rd (A 22) x = rd (Q 1) i := by rw [q1, ex]
  have k2 : rd (A 23) x = rd (Q 2) i := by rw [q2, ex]
  have k4 : rd (A 25) x = rd (Q 4) i := by rw [q4, ex]
  have hk := hQ.2.2.2 i hi
  have hN : 0 ≤ rd (Q 1) i ∧ rd (Q 1) i ≤ 12 := ⟨by have := hk.2.2.2.1; omega, (hk.2.2.2.2.2.2.1 hkd).2⟩
  have hro := hk.2.2.2.2.1 (.inl hkd)
  have hho := (hk.2.2.2.2.2.2.1 hkd).1
  have hmul : 0 ≤ F 15 * rd (A 22) x ∧ F 15 * rd (A 22) x ≤ F 15 * 12 := ⟨Int.mul_nonneg (by omega) (by omega), Int.mul_le_mul_of_nonneg_left (by omega) (by omega)⟩
  refine R_s (P := (0 ≤ x ∧ x < ((A 23).length : Int)) ∧ (0 ≤ x ∧ x < ((A 25).length : Int)) ∧ True) (f' := (14, [some (vR 74), some (vR 2), some (vR 20), some (vI x), none, none, none], [vI (rd (A 25) x), vI (rd (A 23) x), vR 2, vR 74], LAY A F, 0, 0)) hc32 10 rfl ⟨⟨by omega, by omega⟩, ⟨by omega, by omega⟩, trivial⟩ ?_
  refine R_cv hc32 rfl rfl (l_setShares hL hn hn30 hT hal ha hCH (ro := (rd (Q 2) i).toNat) (by omega) (by omega) (by omega)) (fun r G9 hp9 => ?_)
  obtain ⟨rfl, l11, l78, rfl, hl11, hl78, hq0⟩ := hp9
  have hq : ∀ p : Nat, p < n → rd l78 p = SF (A 3) n al (rd (Q 4) i) (rd (Q 2) i).toNat p := fun p hp => by rw [hq0 p hp, k4]
  refine R_s (f' := (17, [some (vR 74), some (vR 2), some (vR 20), some (vI x), none, none, none], [], LAY (u (u A 11 l11) 78 l78) F, 0, 0)) hc32 0 rfl trivial ?_
  refine R_s (P := True) (f' := (20, [some (vR 74), some (vR 2), some (vR 20), some (vI x), some (vI 0), none, none], [], LAY (u (u A 11 l11) 78 l78) F, 0, 0)) hc32 2 rfl trivial ?_
  have lp : ∀ (m p : Nat) (y : Int) (dv : Option AV) (am : Option AV) (l76 : List Int) (l77 : List Int), y = (p : Int) → l76.length = 6 → l77.length = 30 → (∀ j : Nat, j < 6 → rd l76 j = if j = i then sm (fun q => S_am n (A 3) al Q lo i q) p else rd (A 76) j) → (∀ q : Nat, q < n → rd l77 q = if q < p then rd (A 77) q + S_am n (A 3) al Q lo i q else rd (A 77) q) → p ≤ n → n + 1 ≤ p + m → R 32 (20, [some (vR 74), some (vR 2), some (vR 20), some (vI x), some (vI y), dv, am], [], LAY (u (u (u (u A 11 l11) 78 l78) 77 l77) 76 l76) F, 0, 0) (fun r G => r = some (vI (S_le n (A 3) al Q lo i)) ∧ ∃ l11 l76 l77 l78, G = LAY (u (u (u (u A 11 l11) 78 l78) 77 l77) 76 l76) F ∧ l11.length = 30 ∧ l76.length = 6 ∧ l77.length = 30 ∧ l78.length = 30 ∧ (∀ j : Nat, j < 6 → rd l76 j = if j = i then S_le n (A 3) al Q lo i else rd (A 76) j) ∧ ∀ p : Nat, p < n → rd l77 p = rd (A 77) p + S_am n (A 3) al Q lo i p) := by
    intro m
    induction m with
    | zero =>
      intro p y dv am l76 l77 ey hl6 hl7 hz6 hz7 hp hm
      exact absurd hm (by omega)
    | succ m ih =>
      intro p y dv am l76 l77 ey hl6 hl7 hz6 hz7 hp hm
      have hSF : p < n → 0 ≤ SF (A 3) n al (rd (Q 4) i) (rd (Q 2) i).toNat p ∧ SF (A 3) n al (rd (Q 4) i) (rd (Q 2) i).toNat p ≤ 14348907 := fun q => SF_bd ha hT hn30 q
      have h78y : p < n → rd l78 y = SF (A 3) n al (rd (Q 4) i) (rd (Q 2) i).toNat p := fun q => by rw [ey]; exact hq p q
      have g7 : p < n → rd l77 y = rd (A 77) y ∧ 0 ≤ rd (A 77) y ∧ rd (A 77) y ≤ 1000000 := fun q => by rw [ey, hz7 p q, if_neg (by omega)]; exact ⟨rfl, b77 p q⟩
      have g6 : rd l76 x = sm (fun q => S_am n (A 3) al Q lo i q) p := by rw [ex, hz6 i (by omega), if_pos rfl]
      have ham : p < n → 0 ≤ S_am n (A 3) al Q lo i p ∧ S_am n (A 3) al Q lo i p ≤ lo := fun q => S_am_bd ha hT hn30 q hlo.1 hN
      have hsb : 0 ≤ sm (fun q => S_am n (A 3) al Q lo i q) p ∧ sm (fun q => S_am n (A 3) al Q lo i q) p ≤ p * lo := sm_bd p (fun j hj => S_am_bd ha hT hn30 (by omega) hlo.1 hN)
      have hpl : (p : Int) * lo ≤ 30 * lo := Int.mul_le_mul_of_nonneg_right (by omega) hlo.1
      have ka : p < n → 0 < 12 * rd l78 y → F 15 * rd (A 22) x / (12 * rd l78 y) = S_am n (A 3) al Q lo i p := fun q q1 => by rw [h78y q] at q1 ⊢; unfold S_am; rw [if_neg (by omega), h15, k1]
      have kz : p < n → ¬ 0 < 12 * rd l78 y → S_am n (A 3) al Q lo i p = 0 := fun q q1 => by rw [h78y q] at q1; unfold S_am; rw [if_pos (by have := hSF q; omega)]
      refine R_s (P := True) (f' := (26, [some (vR 74), some (vR 2), some (vR 20), some (vI x), some (vI y), dv, am], [vI (F 3), vI y], LAY (u (u (u (u A 11 l11) 78 l78) 77 l77) 76 l76) F, 0, 0)) hc32 3 rfl trivial ?_
      refine R_ic (t := 91) hc32 rfl rfl (fun (c1 : F 3 ≤ y) => ?_) (fun (c1 : ¬ (F 3 ≤ y)) => ?_)
      · refine R_s (P := (0 ≤ x ∧ x < ((l76).length : Int)) ∧ True) (f' := (97, [some (vR 74), some (vR 2), some (vR 20), some (vI x), some (vI y), dv, am], [vI (rd l76 x)], LAY (u (u (u (u A 11 l11) 78 l78) 77 l77) 76 l76) F, 0, 0)) hc32 4 rfl ⟨⟨by omega, by omega⟩, trivial⟩ ?_
        refine R_reti hc32 rfl rfl ⟨?_, l11, l76, l77, l78, rfl, hl11, hl6, hl7, hl78, fun j hj => ?_, fun q hq9 => ?_⟩
        · rw [g6, show p = n by omega]; rfl
        · rw [hz6 j hj, show p = n by omega]; rfl
        · rw [hz7 q hq9, if_pos (by omega)]
      · refine R_s (P := (0 ≤ y ∧ y < ((l78).length : Int)) ∧ inI (12 * (rd l78 y)) ∧ True) (f' := (43, [some (vR 74), some (vR 2), some (vR 20), some (vI x), some (vI y), some (vI (12 * (rd l78 y))), am], [vI (12 * (rd l78 y))], LAY (u (u (u (u A 11 l11) 78 l78) 77 l77) 76 l76) F, 0, 0)) hc32 8 rfl ⟨⟨by omega, by omega⟩, ⟨by omega, by omega⟩, trivial⟩ ?_
        refine R_if (t := 85) hc32 rfl rfl (fun (c2 : 12 * (rd l78 y) ≤ 0) => ?_) (fun (c2 : ¬ (12 * (rd l78 y) ≤ 0)) => ?_)
        · refine R_s (P := inI (y + 1) ∧ True) (f' := (20, [some (vR 74), some (vR 2), some (vR 20), some (vI x), some (vI (y + 1)), some (vI (12 * (rd l78 y))), am], [], LAY (u (u (u (u A 11 l11) 78 l78) 77 l77) 76 l76) F, 0, 0)) hc32 2 rfl ⟨⟨by omega, by omega⟩, trivial⟩ ?_
          have kz1 := kz (by omega) (by omega)
          refine ih (p + 1) _ _ _ _ _ (by omega) hl6 hl7 (fun j hj => ?_) (fun q hq9 => ?_) (by omega) (by omega)
          · rw [hz6 j hj]
            by_cases e9 : j = i
            · rw [if_pos e9, if_pos e9]
              simp only [sm]
              rw [kz1]
              omega
            · rw [if_neg e9, if_neg e9]
          · rw [hz7 q hq9]
            by_cases e3 : q < p
            · rw [if_pos e3, if_pos (by omega)]
            · rw [if_neg e3]
              by_cases e4 : q < p + 1
              · rw [if_pos e4, show q = p by omega, kz1]
                omega
              · rw [if_neg e4]
        · refine R_s (P := (0 ≤ x ∧ x < ((A 22).length : Int)) ∧ inI ((F 15) * (rd (A 22) x)) ∧ (0 ≤ (F 15) * (rd (A 22) x) ∧ 0 < 12 * (rd l78 y)) ∧ (0 ≤ y ∧ y < ((l77).length : Int)) ∧ inI ((rd l77 y) + (((F 15) * (rd (A 22) x)) / (12 * (rd l78 y)))) ∧ (0 ≤ y ∧ y < ((l77).length : Int)) ∧ (0 ≤ x ∧ x < ((l76).length : Int)) ∧ inI ((rd l76 x) + (((F 15) * (rd (A 22) x)) / (12 * (rd l78 y)))) ∧ (0 ≤ x ∧ x < ((l76).length : Int)) ∧ inI (y + 1) ∧ True) (f' := (20, [some (vR 74), some (vR 2), some (vR 20), some (vI x), some (vI (y + 1)), some (vI (12 * (rd l78 y))), some (vI (((F 15) * (rd (A 22) x)) / (12 * (rd l78 y))))], [], LAY (u (u (u (u A 11 l11) 78 l78) 77 (wr l77 y ((rd l77 y) + (((F 15) * (rd (A 22) x)) / (12 * (rd l78 y)))))) 76 (wr l76 x ((rd l76 x) + (((F 15) * (rd (A 22) x)) / (12 * (rd l78 y)))))) F, 0, 0)) hc32 28 rfl ⟨⟨by omega, by omega⟩, ⟨by omega, by omega⟩, ⟨by omega, by omega⟩, ⟨by omega, by omega⟩, (by have ka1 := ka (by omega) (by omega); have g71 := g7 (by omega); have ham1 := ham (by omega); unfold inI; omega), ⟨by omega, by omega⟩, ⟨by omega, by omega⟩, (by have ka1 := ka (by omega) (by omega); have g71 := g7 (by omega); have ham1 := ham (by omega); unfold inI; omega), ⟨by omega, by omega⟩, ⟨by omega, by omega⟩, trivial⟩ ?_
          have ka1 := ka (by omega) (by omega)
          have g71 := g7 (by omega)
          refine ih (p + 1) _ _ _ _ _ (by omega) (by rw [wr_len]; exact hl6) (by rw [wr_len]; exact hl7) (fun j hj => ?_) (fun q hq9 => ?_) (by omega) (by omega)
          · rw [rd_wr (by omega) (by omega) (by omega)]
            by_cases e9 : (j : Int) = x
            · rw [if_pos e9, if_pos (by omega), g6, ka1]
              rfl
            · rw [if_neg e9, hz6 j hj, if_neg (by omega), if_neg (by omega)]
          · rw [rd_wr (by omega) (by omega) (by omega)]
            by_cases e9 : (q : Int) = y
            · rw [if_pos e9, if_pos (by omega), g71.1, ka1, e9, show q = p by omega]
            · rw [if_neg e9, hz7 q hq9]
              by_cases e3 : q < p
              · rw [if_pos e3, if_pos (by omega)]
              · rw [if_neg e3, if_neg (by omega)]
  refine R_s (P := True) (f' := (20, [some (vR 74), some (vR 2), some (vR 20), some (vI x), some (vI 0), none, none], [], LAY (u (u (u (u A 11 l11) 78 l78) 77 (A 77)) 76 (A 76)) F, 0, 0)) hc32 0 rfl trivial ?_
  refine lp (n + 1) 0 _ _ _ _ _ rfl h76 h77 (fun j hj => ?_) (fun q hq9 => by rw [if_neg (by omega)]) (by omega) (by omega)
  split
  · rename_i q
    rw [q, z76]
    rfl
  · rfl
theorem l_payLine1 {A : Nat → List Int} {F : Nat → Int} {n : Nat} (hL : LENS A) (hn : (n : Int) = F 3) (hn30 : n ≤ 30) (hT : TR (A 3) n) {al : Nat → Int} (hal : ∀ p : Nat, p < n → rd (A 8) p = al p) (ha : ∀ p : Nat, p < n → al p = 0 ∨ al p = 1) {Q : Nat → List Int} {e : Nat} (hQ : QOK n Q e) (hF : F 9 = e) (q0 : A 30 = Q 0) (q1 : A 31 = Q 1) (q2 : A 32 = Q 2) (q3 : A 33 = Q 3) (q4 : A 34 = Q 4) (q5 : A 35 = Q 5) (q6 : A 36 = Q 6) (q7 : A 37 = Q 7) (hCH : ∀ p : Nat, p < n → rd (A 9) p = CN (A 3) n al p ∧ rd (A 10) p = HR (A 3) n al p) {x : Int} {i : Nat} (ex : x = i) (hi : i < e) (hkd : rd (Q 0) i = 1) {lo : Int} (hlo : 0 ≤ lo ∧ lo ≤ 99990) (h15 : F 15 = lo) (z76 : rd (A 76) i = 0) (b77 : ∀ p : Nat, p < n → 0 ≤ rd (A 77) p ∧ rd (A 77) p ≤ 1000000) : R 32 (0, L0 32 [vR 74, vR 2, vR 29, vI x], [], LAY A F, 0, 0) (fun r G => r = some (vI (S_le n (A 3) al Q lo i)) ∧ ∃ l11 l76 l77 l78, G = LAY (u (u (u (u A 11 l11) 78 l78) 77 l77) 76 l76) F ∧ l11.length = 30 ∧ l76.length = 6 ∧ l77.length = 30 ∧ l78.length = 30 ∧ (∀ j : Nat, j < 6 → rd l76 j = if j = i then S_le n (A 3) al Q lo i else rd (A 76) j) ∧ ∀ p : Nat, p < n → rd l77 p = rd (A 77) p + S_am n (A 3) al Q lo i p) := by
  have h76 : (A 76).length = 6 := hL 76 (by decide)
  have h77 : (A 77).length = 30 := hL 77 (by decide)
  have h78 : (A 78).length = 30 := hL 78 (by decide)
  have d0 : (A 30).length = 6 := hL 30 (by decide)
  have d1 : (A 31).length = 6 := hL 31 (by decide)
  have d2 : (A 32).length = 6 := hL 32 (by decide)
  have d3 : (A 33).length = 6 := hL 33 (by decide)
  have d4 : (A 34).length = 6 := hL 34 (by decide)
  have d5 : (A 35).length = 6 := hL 35 (by decide)
  have d6 : (A 36).length = 6 := hL 36 (by decide)
  have d7 : (A 37).length = 6 := hL 37 (by decide)
  have he1 := hQ.1
  have he2 := hQ.2.1
  have k1 : rd (A 31) x = rd (Q 1) i := by rw [q1, ex]
  have k2 : rd (A 32) x = rd (Q 2) i := by rw [q2, ex]
  have k4 : rd (A 34) x = rd (Q 4) i := by rw [q4, ex]
  have hk := hQ.2.2.2 i hi
  have hN : 0 ≤ rd (Q 1) i ∧ rd (Q 1) i ≤ 12 := ⟨by have := hk.2.2.2.1; omega, (hk.2.2.2.2.2.2.1 hkd).2⟩
  have hro := hk.2.2.2.2.1 (.inl hkd)
  have hho := (hk.2.2.2.2.2.2.1 hkd).1
  have hmul : 0 ≤ F 15 * rd (A 31) x ∧ F 15 * rd (A 31) x ≤ F 15 * 12 := ⟨Int.mul_nonneg (by omega) (by omega), Int.mul_le_mul_of_nonneg_left (by omega) (by omega)⟩
  refine R_s (P := (0 ≤ x ∧ x < ((A 32).length : Int)) ∧ (0 ≤ x ∧ x < ((A 34).length : Int)) ∧ True) (f' := (14, [some (vR 74), some (vR 2), some (vR 29), some (vI x), none, none, none], [vI (rd (A 34) x), vI (rd (A 32) x), vR 2, vR 74], LAY A F, 0, 0)) hc32 10 rfl ⟨⟨by omega, by omega⟩, ⟨by omega, by omega⟩, trivial⟩ ?_
  refine R_cv hc32 rfl rfl (l_setShares hL hn hn30 hT hal ha hCH (ro := (rd (Q 2) i).toNat) (by omega) (by omega) (by omega)) (fun r G9 hp9 => ?_)
  obtain ⟨rfl, l11, l78, rfl, hl11, hl78, hq0⟩ := hp9
  have hq : ∀ p : Nat, p < n → rd l78 p = SF (A 3) n al (rd (Q 4) i) (rd (Q 2) i).toNat p := fun p hp => by rw [hq0 p hp, k4]
  refine R_s (f' := (17, [some (vR 74), some (vR 2), some (vR 29), some (vI x), none, none, none], [], LAY (u (u A 11 l11) 78 l78) F, 0, 0)) hc32 0 rfl trivial ?_
  refine R_s (P := True) (f' := (20, [some (vR 74), some (vR 2), some (vR 29), some (vI x), some (vI 0), none, none], [], LAY (u (u A 11 l11) 78 l78) F, 0, 0)) hc32 2 rfl trivial ?_
  have lp : ∀ (m p : Nat) (y : Int) (dv : Option AV) (am : Option AV) (l76 : List Int) (l77 : List Int), y = (p : Int) → l76.length = 6 → l77.length = 30 → (∀ j : Nat, j < 6 → rd l76 j = if j = i then sm (fun q => S_am n (A 3) al Q lo i q) p else rd (A 76) j) → (∀ q : Nat, q < n → rd l77 q = if q < p then rd (A 77) q + S_am n (A 3) al Q lo i q else rd (A 77) q) → p ≤ n → n + 1 ≤ p + m → R 32 (20, [some (vR 74), some (vR 2), some (vR 29), some (vI x), some (vI y), dv, am], [], LAY (u (u (u (u A 11 l11) 78 l78) 77 l77) 76 l76) F, 0, 0) (fun r G => r = some (vI (S_le n (A 3) al Q lo i)) ∧ ∃ l11 l76 l77 l78, G = LAY (u (u (u (u A 11 l11) 78 l78) 77 l77) 76 l76) F ∧ l11.length = 30 ∧ l76.length = 6 ∧ l77.length = 30 ∧ l78.length = 30 ∧ (∀ j : Nat, j < 6 → rd l76 j = if j = i then S_le n (A 3) al Q lo i else rd (A 76) j) ∧ ∀ p : Nat, p < n → rd l77 p = rd (A 77) p + S_am n (A 3) al Q lo i p) := by
    intro m
    induction m with
    | zero =>
      intro p y dv am l76 l77 ey hl6 hl7 hz6 hz7 hp hm
      exact absurd hm (by omega)
    | succ m ih =>
      intro p y dv am l76 l77 ey hl6 hl7 hz6 hz7 hp hm
      have hSF : p < n → 0 ≤ SF (A 3) n al (rd (Q 4) i) (rd (Q 2) i).toNat p ∧ SF (A 3) n al (rd (Q 4) i) (rd (Q 2) i).toNat p ≤ 14348907 := fun q => SF_bd ha hT hn30 q
      have h78y : p < n → rd l78 y = SF (A 3) n al (rd (Q 4) i) (rd (Q 2) i).toNat p := fun q => by rw [ey]; exact hq p q
      have g7 : p < n → rd l77 y = rd (A 77) y ∧ 0 ≤ rd (A 77) y ∧ rd (A 77) y ≤ 1000000 := fun q => by rw [ey, hz7 p q, if_neg (by omega)]; exact ⟨rfl, b77 p q⟩
      have g6 : rd l76 x = sm (fun q => S_am n (A 3) al Q lo i q) p := by rw [ex, hz6 i (by omega), if_pos rfl]
      have ham : p < n → 0 ≤ S_am n (A 3) al Q lo i p ∧ S_am n (A 3) al Q lo i p ≤ lo := fun q => S_am_bd ha hT hn30 q hlo.1 hN
      have hsb : 0 ≤ sm (fun q => S_am n (A 3) al Q lo i q) p ∧ sm (fun q => S_am n (A 3) al Q lo i q) p ≤ p * lo := sm_bd p (fun j hj => S_am_bd ha hT hn30 (by omega) hlo.1 hN)
      have hpl : (p : Int) * lo ≤ 30 * lo := Int.mul_le_mul_of_nonneg_right (by omega) hlo.1
      have ka : p < n → 0 < 12 * rd l78 y → F 15 * rd (A 31) x / (12 * rd l78 y) = S_am n (A 3) al Q lo i p := fun q q1 => by rw [h78y q] at q1 ⊢; unfold S_am; rw [if_neg (by omega), h15, k1]
      have kz : p < n → ¬ 0 < 12 * rd l78 y → S_am n (A 3) al Q lo i p = 0 := fun q q1 => by rw [h78y q] at q1; unfold S_am; rw [if_pos (by have := hSF q; omega)]
      refine R_s (P := True) (f' := (26, [some (vR 74), some (vR 2), some (vR 29), some (vI x), some (vI y), dv, am], [vI (F 3), vI y], LAY (u (u (u (u A 11 l11) 78 l78) 77 l77) 76 l76) F, 0, 0)) hc32 3 rfl trivial ?_
      refine R_ic (t := 91) hc32 rfl rfl (fun (c1 : F 3 ≤ y) => ?_) (fun (c1 : ¬ (F 3 ≤ y)) => ?_)
      · refine R_s (P := (0 ≤ x ∧ x < ((l76).length : Int)) ∧ True) (f' := (97, [some (vR 74), some (vR 2), some (vR 29), some (vI x), some (vI y), dv, am], [vI (rd l76 x)], LAY (u (u (u (u A 11 l11) 78 l78) 77 l77) 76 l76) F, 0, 0)) hc32 4 rfl ⟨⟨by omega, by omega⟩, trivial⟩ ?_
        refine R_reti hc32 rfl rfl ⟨?_, l11, l76, l77, l78, rfl, hl11, hl6, hl7, hl78, fun j hj => ?_, fun q hq9 => ?_⟩
        · rw [g6, show p = n by omega]; rfl
        · rw [hz6 j hj, show p = n by omega]; rfl
        · rw [hz7 q hq9, if_pos (by omega)]
      · refine R_s (P := (0 ≤ y ∧ y < ((l78).length : Int)) ∧ inI (12 * (rd l78 y)) ∧ True) (f' := (43, [some (vR 74), some (vR 2), some (vR 29), some (vI x), some (vI y), some (vI (12 * (rd l78 y))), am], [vI (12 * (rd l78 y))], LAY (u (u (u (u A 11 l11) 78 l78) 77 l77) 76 l76) F, 0, 0)) hc32 8 rfl ⟨⟨by omega, by omega⟩, ⟨by omega, by omega⟩, trivial⟩ ?_
        refine R_if (t := 85) hc32 rfl rfl (fun (c2 : 12 * (rd l78 y) ≤ 0) => ?_) (fun (c2 : ¬ (12 * (rd l78 y) ≤ 0)) => ?_)
        · refine R_s (P := inI (y + 1) ∧ True) (f' := (20, [some (vR 74), some (vR 2), some (vR 29), some (vI x), some (vI (y + 1)), some (vI (12 * (rd l78 y))), am], [], LAY (u (u (u (u A 11 l11) 78 l78) 77 l77) 76 l76) F, 0, 0)) hc32 2 rfl ⟨⟨by omega, by omega⟩, trivial⟩ ?_
          have kz1 := kz (by omega) (by omega)
          refine ih (p + 1) _ _ _ _ _ (by omega) hl6 hl7 (fun j hj => ?_) (fun q hq9 => ?_) (by omega) (by omega)
          · rw [hz6 j hj]
            by_cases e9 : j = i
            · rw [if_pos e9, if_pos e9]
              simp only [sm]
              rw [kz1]
              omega
            · rw [if_neg e9, if_neg e9]
          · rw [hz7 q hq9]
            by_cases e3 : q < p
            · rw [if_pos e3, if_pos (by omega)]
            · rw [if_neg e3]
              by_cases e4 : q < p + 1
              · rw [if_pos e4, show q = p by omega, kz1]
                omega
              · rw [if_neg e4]
        · refine R_s (P := (0 ≤ x ∧ x < ((A 31).length : Int)) ∧ inI ((F 15) * (rd (A 31) x)) ∧ (0 ≤ (F 15) * (rd (A 31) x) ∧ 0 < 12 * (rd l78 y)) ∧ (0 ≤ y ∧ y < ((l77).length : Int)) ∧ inI ((rd l77 y) + (((F 15) * (rd (A 31) x)) / (12 * (rd l78 y)))) ∧ (0 ≤ y ∧ y < ((l77).length : Int)) ∧ (0 ≤ x ∧ x < ((l76).length : Int)) ∧ inI ((rd l76 x) + (((F 15) * (rd (A 31) x)) / (12 * (rd l78 y)))) ∧ (0 ≤ x ∧ x < ((l76).length : Int)) ∧ inI (y + 1) ∧ True) (f' := (20, [some (vR 74), some (vR 2), some (vR 29), some (vI x), some (vI (y + 1)), some (vI (12 * (rd l78 y))), some (vI (((F 15) * (rd (A 31) x)) / (12 * (rd l78 y))))], [], LAY (u (u (u (u A 11 l11) 78 l78) 77 (wr l77 y ((rd l77 y) + (((F 15) * (rd (A 31) x)) / (12 * (rd l78 y)))))) 76 (wr l76 x ((rd l76 x) + (((F 15) * (rd (A 31) x)) / (12 * (rd l78 y)))))) F, 0, 0)) hc32 28 rfl ⟨⟨by omega, by omega⟩, ⟨by omega, by omega⟩, ⟨by omega, by omega⟩, ⟨by omega, by omega⟩, (by have ka1 := ka (by omega) (by omega); have g71 := g7 (by omega); have ham1 := ham (by omega); unfold inI; omega), ⟨by omega, by omega⟩, ⟨by omega, by omega⟩, (by have ka1 := ka (by omega) (by omega); have g71 := g7 (by omega); have ham1 := ham (by omega); unfold inI; omega), ⟨by omega, by omega⟩, ⟨by omega, by omega⟩, trivial⟩ ?_
          have ka1 := ka (by omega) (by omega)
          have g71 := g7 (by omega)
          refine ih (p + 1) _ _ _ _ _ (by omega) (by rw [wr_len]; exact hl6) (by rw [wr_len]; exact hl7) (fun j hj => ?_) (fun q hq9 => ?_) (by omega) (by omega)
          · rw [rd_wr (by omega) (by omega) (by omega)]
            by_cases e9 : (j : Int) = x
            · rw [if_pos e9, if_pos (by omega), g6, ka1]
              rfl
            · rw [if_neg e9, hz6 j hj, if_neg (by omega), if_neg (by omega)]
          · rw [rd_wr (by omega) (by omega) (by omega)]
            by_cases e9 : (q : Int) = y
            · rw [if_pos e9, if_pos (by omega), g71.1, ka1, e9, show q = p by omega]
            · rw [if_neg e9, hz7 q hq9]
              by_cases e3 : q < p
              · rw [if_pos e3, if_pos (by omega)]
              · rw [if_neg e3, if_neg (by omega)]
  refine R_s (P := True) (f' := (20, [some (vR 74), some (vR 2), some (vR 29), some (vI x), some (vI 0), none, none], [], LAY (u (u (u (u A 11 l11) 78 l78) 77 (A 77)) 76 (A 76)) F, 0, 0)) hc32 0 rfl trivial ?_
  refine lp (n + 1) 0 _ _ _ _ _ rfl h76 h77 (fun j hj => ?_) (fun q hq9 => by rw [if_neg (by omega)]) (by omega) (by omega)
  split
  · rename_i q
    rw [q, z76]
    rfl
  · rfl
