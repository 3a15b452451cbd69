/-- what an end gets, the rest's aside; what it gets at the end -/
def S_ge (n : Nat) (P : List Int) (al : Nat → Int) (Q : Nat → List Int) (so : Nat → Int) (pm r lo : Int) (j : Nat) : Int :=
  if rd (Q 0) j = 2 then pm else
  if rd (Q 0) j = 1 then (if so j = 1 then S_le n P al Q lo j else 0) else
  S_fe Q so (S_fx Q so r j) j
def S_te (n : Nat) (P : List Int) (al : Nat → Int) (Q : Nat → List Int) (so : Nat → Int) (pm r lo : Int) (e j : Nat) : Int :=
  if rd (Q 0) j = 3 then S_rs n P al Q so lo e else S_ge n P al Q so pm r lo j
theorem l_reckon0 {A : Nat → List Int} {F : Nat → Int} {n : Nat} (hL : LENS A) (hn : (n : Int) = F 3) (hn30 : n ≤ 30) (hT : TR (A 3) n) {al : Nat → Int} (hal : ∀ p : Nat, p < n → rd (A 8) p = al p) (ha : ∀ p : Nat, p < n → al p = 0 ∨ al p = 1) {Q : Nat → List Int} {e : Nat} (hQ : QOK n Q e) (hF : F 8 = e) (q0 : A 21 = Q 0) (q1 : A 22 = Q 1) (q2 : A 23 = Q 2) (q3 : A 24 = Q 3) (q4 : A 25 = Q 4) (q5 : A 26 = Q 5) (q6 : A 27 = Q 6) (q7 : A 28 = Q 7) (hCH : ∀ p : Nat, p < n → rd (A 9) p = CN (A 3) n al p ∧ rd (A 10) p = HR (A 3) n al p) {yr Y : Int} (hY : 0 ≤ Y ∧ Y ≤ 99990) {so : Nat → Int} (hso9 : so = T_so n yr Y (A 3) al Q e) {mg pm lo : Int} (hmg : mg = S_mg n (A 3) (A 4) al Q so) (hpm : pm = S_pm Y Q mg) (hlo : lo = S_fx Q so (Y - pm) e) : R 27 (0, L0 27 [vR 74, vR 2, vR 20, vI Y, vI yr], [], LAY A F, 0, 0) (fun r G => r = none ∧ ∃ l11 l75 l76 l77 l78, G = LAY (u (u (u (u (u A 75 l75) 11 l11) 78 l78) 77 l77) 76 l76) (u (u F 14 mg) 15 lo) ∧ l11.length = 30 ∧ l75.length = 6 ∧ l76.length = 6 ∧ l77.length = 30 ∧ l78.length = 30 ∧ (∀ i : Nat, i < e → rd l75 i = so i) ∧ (∀ j : Nat, j < e → rd l76 j = S_te n (A 3) al Q so pm (Y - pm) lo e j) ∧ ∀ p : Nat, p < n → rd l77 p = (if mg = p then pm else 0) + S_ls n (A 3) al Q so lo e p) := by
  have h11 : (A 11).length = 30 := hL 11 (by decide)
  have h75 : (A 75).length = 6 := hL 75 (by decide)
  have h76 : (A 76).length = 6 := hL 76 (by decide)
  have h77 : (A 77).length = 30 := hL 77 (by decide)
  have h78 : (A 78).length = 30 := hL 78 (by decide)
  have d0 : (A 21).length = 6 := hL 21 (by decide)
  have d1 : (A 22).length = 6 := hL 22 (by decide)
  have d2 : (A 23).length = 6 := hL 23 (by decide)
  have d3 : (A 24).length = 6 := hL 24 (by decide)
  have d4 : (A 25).length = 6 := hL 25 (by decide)
  have d5 : (A 26).length = 6 := hL 26 (by decide)
  have d6 : (A 27).length = 6 := hL 27 (by decide)
  have d7 : (A 28).length = 6 := hL 28 (by decide)
  have he1 := hQ.1
  have he2 := hQ.2.1
  have hs01 : ∀ i : Nat, so i = 0 ∨ so i = 1 := fun i => by rw [hso9]; exact S_so_01 i
  have hNe : ∀ j : Nat, j < e → rd (Q 0) j = 1 → 0 ≤ rd (Q 1) j ∧ rd (Q 1) j ≤ 12 := fun j hj hj2 => by
    have z := hQ.2.2.2 j hj
    exact ⟨by have := z.2.2.2.1; omega, (z.2.2.2.2.2.2.1 hj2).2⟩
  have hNf : ∀ j : Nat, j < e → rd (Q 0) j = 0 → 0 ≤ rd (Q 1) j := fun j hj hj2 => by
    have z := (hQ.2.2.2 j hj).2.2.2.1
    omega
  have hpb : 0 ≤ pm ∧ pm ≤ Y := by
    rw [hpm]
    refine S_pm_bd hY.1 (fun q => ?_)
    have z := hQ.2.2.2 0 (by omega)
    have z2 : rd (Q 0) 0 = 2 := by
      refine Classical.byContradiction (fun q2 => q ?_)
      rw [hmg]
      unfold S_mg
      rw [if_neg (fun q3 => q2 q3.1)]
    have z4 := z.2.2.2.1
    have z3 : rd (Q 0) ((0 : Nat) : Int) = 2 := z2
    have z5 : 0 ≤ rd (Q 1) ((0 : Nat) : Int) := by omega
    exact ⟨z5, (z.2.2.1 z2).2⟩
  have hlb : 0 ≤ lo ∧ lo ≤ 99990 := by
    have z := S_fx_bd (Q := Q) (so := so) (r := Y - pm) (by omega) e hNf
    rw [hlo]
    omega
  refine R_s (P := True) (f' := (1, [some (vR 74), some (vR 2), some (vR 20), some (vI Y), some (vI yr), none, none], [vR 74], LAY A F, 0, 0)) hc27 1 rfl trivial ?_
  refine R_cv hc27 rfl rfl (l_clear hL) (fun r G9 hp9 => ?_)
  obtain ⟨rfl, l76, l77, rfl, hl76, hl77, hz76, hz77⟩ := hp9
  refine R_s (f' := (4, [some (vR 74), some (vR 2), some (vR 20), some (vI Y), some (vI yr), none, none], [], LAY (u (u A 76 l76) 77 l77) (u F 14 (-1)), 0, 0)) hc27 0 rfl trivial ?_
  refine R_s (P := True) (f' := (10, [some (vR 74), some (vR 2), some (vR 20), some (vI Y), some (vI yr), none, none], [vI yr, vI Y, vR 20, vR 2, vR 74], LAY (u (u A 76 l76) 77 l77) (u F 14 (-1)), 0, 0)) hc27 5 rfl trivial ?_
  refine R_cv hc27 rfl rfl (l_judge0 (A := (u (u A 76 l76) 77 l77)) (F := (u F 14 (-1))) (LENS_u (LENS_u hL (by show (l76).length = (A 76).length; rw [hl76, h76])) (by show (l77).length = (A 77).length; rw [hl77, h77])) hn hn30 hT hal ha hQ hF q0 q1 q2 q3 q4 q5 q6 q7 (yr := yr) (Y := Y)) (fun r G9 hp9 => ?_)
  obtain ⟨rfl, l11, l75, rfl, hl11, hl75, hso0⟩ := hp9
  have hso : ∀ i : Nat, i < e → rd l75 i = so i := fun i hi => by rw [hso9]; exact hso0 i hi
  refine R_s (f' := (13, [some (vR 74), some (vR 2), some (vR 20), some (vI Y), some (vI yr), none, none], [], LAY (u (u (u (u A 76 l76) 77 l77) 11 l11) 75 l75) (u F 14 (-1)), 0, 0)) hc27 0 rfl trivial ?_
  refine R_s (P := True) (f' := (18, [some (vR 74), some (vR 2), some (vR 20), some (vI Y), some (vI yr), none, none], [vI Y, vR 20, vR 2, vR 74, vI Y], LAY (u (u (u (u A 76 l76) 77 l77) 11 l11) 75 l75) (u F 14 (-1)), 0, 0)) hc27 5 rfl trivial ?_
  refine R_cv hc27 rfl rfl (l_payManager0 (A := (u (u (u (u A 76 l76) 77 l77) 11 l11) 75 l75)) (F := (u F 14 (-1))) (LENS_u (LENS_u (LENS_u (LENS_u hL (by show (l76).length = (A 76).length; rw [hl76, h76])) (by show (l77).length = (A 77).length; rw [hl77, h77])) (by show (l11).length = (A 11).length; rw [hl11, h11])) (by show (l75).length = (A 75).length; rw [hl75, h75])) hn hn30 hT hal ha hQ hF q0 q1 q2 q3 q4 q5 q6 q7 hY hso hs01 hz76 hz77 rfl (mg := mg) (pm := pm) hmg hpm) (fun r G9 hp9 => ?_)
  obtain ⟨rfl, m11, m76, m77, rfl, hm11, hm76, hm77, hz1, hz2⟩ := hp9
  refine R_s (f' := (21, [some (vR 74), some (vR 2), some (vR 20), some (vI Y), some (vI yr), none, none], [vI pm, vI Y], LAY (u (u (u (u A 75 l75) 11 m11) 76 m76) 77 m77) (u F 14 mg), 0, 0)) hc27 0 rfl trivial ?_
  refine R_s (P := inI (Y - pm) ∧ True) (f' := (28, [some (vR 74), some (vR 2), some (vR 20), some (vI Y), some (vI yr), some (vI (Y - pm)), none], [vI (Y - pm), vR 20, vR 74], LAY (u (u (u (u A 75 l75) 11 m11) 76 m76) 77 m77) (u F 14 mg), 0, 0)) hc27 5 rfl ⟨⟨by omega, by omega⟩, trivial⟩ ?_
  refine R_cv hc27 rfl rfl (l_payFixed0 (A := (u (u (u (u A 75 l75) 11 m11) 76 m76) 77 m77)) (F := (u F 14 mg)) (LENS_u (LENS_u (LENS_u (LENS_u hL (by show (l75).length = (A 75).length; rw [hl75, h75])) (by show (m11).length = (A 11).length; rw [hm11, h11])) (by show (m76).length = (A 76).length; rw [hm76, h76])) (by show (m77).length = (A 77).length; rw [hm77, h77])) hn hn30 hQ hF q0 q1 q2 q3 q4 q5 q6 q7 (r0 := Y - pm) ⟨by omega, by omega⟩ hso hs01) (fun r G9 hp9 => ?_)
  obtain ⟨e1, f76, rfl, hf76, hz3⟩ := hp9
  rw [← hlo] at e1
  subst e1
  have hz4 : ∀ j : Nat, j < 6 → rd f76 j = if j < e ∧ so j = 1 ∧ rd (Q 0) j = 0 then S_fe Q so (S_fx Q so (Y - pm) j) j else rd m76 j := hz3
  refine R_s (f' := (31, [some (vR 74), some (vR 2), some (vR 20), some (vI Y), some (vI yr), some (vI (Y - pm)), none], [vI lo], LAY (u (u (u (u A 75 l75) 11 m11) 77 m77) 76 f76) (u F 14 mg), 0, 0)) hc27 0 rfl trivial ?_
  refine R_s (P := True) (f' := (42, [some (vR 74), some (vR 2), some (vR 20), some (vI Y), some (vI yr), some (vI lo), some (vI 0)], [], LAY (u (u (u (u A 75 l75) 11 m11) 77 m77) 76 f76) (u (u F 14 mg) 15 lo), 0, 0)) hc27 6 rfl trivial ?_
  have lp : ∀ (m i : Nat) (x : Int) (rest : Int) (b11 : List Int) (b78 : List Int) (b77 : List Int) (b76 : List Int), x = (i : Int) → b11.length = 30 → b78.length = 30 → b77.length = 30 → b76.length = 6 → rest = S_rs n (A 3) al Q so lo i → (∀ j : Nat, j < e → rd b76 j = if rd (Q 0) j = 1 ∧ i ≤ j then 0 else S_ge n (A 3) al Q so pm (Y - pm) lo j) → (∀ p : Nat, p < n → rd b77 p = (if mg = p then pm else 0) + S_ls n (A 3) al Q so lo i p) → i ≤ e → e + 1 ≤ i + m → R 27 (42, [some (vR 74), some (vR 2), some (vR 20), some (vI Y), some (vI yr), some (vI rest), some (vI x)], [], LAY (u (u (u (u (u A 75 l75) 11 b11) 78 b78) 77 b77) 76 b76) (u (u F 14 mg) 15 lo), 0, 0) (fun r G => r = none ∧ ∃ l11 l75 l76 l77 l78, G = LAY (u (u (u (u (u A 75 l75) 11 l11) 78 l78) 77 l77) 76 l76) (u (u F 14 mg) 15 lo) ∧ l11.length = 30 ∧ l75.length = 6 ∧ l76.length = 6 ∧ l77.length = 30 ∧ l78.length = 30 ∧ (∀ i : Nat, i < e → rd l75 i = so i) ∧ (∀ j : Nat, j < e → rd l76 j = S_te n (A 3) al Q so pm (Y - pm) lo e j) ∧ ∀ p : Nat, p < n → rd l77 p = (if mg = p then pm else 0) + S_ls n (A 3) al Q so lo e p) := by
    intro m
    induction m with
    | zero =>
      intro i x rest b11 b78 b77 b76 ex hb11 hb78 hb77 hb76 hr hz6 hz7 hi hm
      exact absurd hm (by omega)
    | succ m ih =>
      intro i x rest b11 b78 b77 b76 ex hb11 hb78 hb77 hb76 hr hz6 hz7 hi hm
      have k0 : rd (A 21) x = rd (Q 0) i := by rw [q0, ex]
      have ks : i < e → rd l75 x = so i := fun q => by rw [ex]; exact hso i q
      have hs1 := hs01 i
      have il : (i : Int) * lo ≤ 6 * lo := Int.mul_le_mul_of_nonneg_right (by omega) hlb.1
      have il2 : (i : Int) * (30 * lo) ≤ 6 * (30 * lo) := Int.mul_le_mul_of_nonneg_right (by omega) (by omega)
      have hb : ∀ p : Nat, p < n → 0 ≤ rd b77 p ∧ rd b77 p ≤ 1000000 := fun p hp => by
        have z2 := S_ls_bd (so := so) (Q := Q) ha hT hn30 hp hlb.1 i (by omega) (fun j hj => hNe j (by omega))
        rw [hz7 p hp]
        split <;> omega
      have hrb := S_rs_bd (so := so) (Q := Q) ha hT hn30 hlb.1 i (by omega) (fun j hj => hNe j (by omega))
      have hleb : i < e → rd (Q 0) i = 1 → 0 ≤ S_le n (A 3) al Q lo i ∧ S_le n (A 3) al Q lo i ≤ 30 * lo := fun q1 q2 => S_le_bd ha hT hn30 hlb.1 (hNe i q1 q2)
      refine R_s (P := True) (f' := (48, [some (vR 74), some (vR 2), some (vR 20), some (vI Y), some (vI yr), some (vI rest), some (vI x)], [vI (F 8), vI x], LAY (u (u (u (u (u A 75 l75) 11 b11) 78 b78) 77 b77) 76 b76) (u (u F 14 mg) 15 lo), 0, 0)) hc27 3 rfl trivial ?_
      refine R_ic (t := 91) hc27 rfl rfl (fun (c1 : F 8 ≤ x) => ?_) (fun (c1 : ¬ (F 8 ≤ x)) => ?_)
      · refine R_s (P := True) (f' := (94, [some (vR 74), some (vR 2), some (vR 20), some (vI Y), some (vI yr), some (vI rest), some (vI 0)], [], LAY (u (u (u (u (u A 75 l75) 11 b11) 78 b78) 77 b77) 76 b76) (u (u F 14 mg) 15 lo), 0, 0)) hc27 2 rfl trivial ?_
        have lp2 : ∀ (mj j : Nat) (y : Int) (w : List Int), y = (j : Int) → w.length = 6 → (∀ q : Nat, q < e → rd w q = if rd (Q 0) q = 3 ∧ q < j then rest else S_ge n (A 3) al Q so pm (Y - pm) lo q) → j ≤ e → e + 1 ≤ j + mj → R 27 (94, [some (vR 74), some (vR 2), some (vR 20), some (vI Y), some (vI yr), some (vI rest), some (vI y)], [], LAY (u (u (u (u (u A 75 l75) 11 b11) 78 b78) 77 b77) 76 w) (u (u F 14 mg) 15 lo), 0, 0) (fun r G => r = none ∧ ∃ l11 l75 l76 l77 l78, G = LAY (u (u (u (u (u A 75 l75) 11 l11) 78 l78) 77 l77) 76 l76) (u (u F 14 mg) 15 lo) ∧ l11.length = 30 ∧ l75.length = 6 ∧ l76.length = 6 ∧ l77.length = 30 ∧ l78.length = 30 ∧ (∀ i : Nat, i < e → rd l75 i = so i) ∧ (∀ j : Nat, j < e → rd l76 j = S_te n (A 3) al Q so pm (Y - pm) lo e j) ∧ ∀ p : Nat, p < n → rd l77 p = (if mg = p then pm else 0) + S_ls n (A 3) al Q so lo e p) := by
          intro mj
          induction mj with
          | zero =>
            intro j y w ey hw hzw hj hmj
            exact absurd hmj (by omega)
          | succ mj ihj =>
            intro j y w ey hw hzw hj hmj
            have k0 : rd (A 21) y = rd (Q 0) j := by rw [q0, ey]
            have hk3 := fun q : j < e => (hQ.2.2.2 j q).2.1
            refine R_s (P := True) (f' := (100, [some (vR 74), some (vR 2), some (vR 20), some (vI Y), some (vI yr), some (vI rest), some (vI y)], [vI (F 8), vI y], LAY (u (u (u (u (u A 75 l75) 11 b11) 78 b78) 77 b77) 76 w) (u (u F 14 mg) 15 lo), 0, 0)) hc27 3 rfl trivial ?_
            refine R_ic (t := 129) hc27 rfl rfl (fun (c1 : F 8 ≤ y) => ?_) (fun (c1 : ¬ (F 8 ≤ y)) => ?_)
            · refine R_retv hc27 rfl rfl ⟨rfl, b11, l75, w, b77, b78, rfl, hb11, hl75, hw, hb77, hb78, hso, fun q hq => ?_, fun p hp => ?_⟩
              · rw [hzw q hq]
                unfold S_te
                by_cases e3 : rd (Q 0) q = 3
                · rw [if_pos e3, if_pos ⟨e3, by omega⟩, hr, show i = e by omega]
                · rw [if_neg e3, if_neg (fun z => e3 z.1)]
              · rw [hz7 p hp, show i = e by omega]
            · refine R_s (P := (0 ≤ y ∧ y < ((A 21).length : Int)) ∧ True) (f' := (111, [some (vR 74), some (vR 2), some (vR 20), some (vI Y), some (vI yr), some (vI rest), some (vI y)], [vI 3, vI (rd (A 21) y)], LAY (u (u (u (u (u A 75 l75) 11 b11) 78 b78) 77 b77) 76 w) (u (u F 14 mg) 15 lo), 0, 0)) hc27 5 rfl ⟨⟨by omega, by omega⟩, trivial⟩ ?_
              refine R_ic (t := 123) hc27 rfl rfl (fun (c2 : ¬ rd (A 21) y = 3) => ?_) (fun (c2 : ¬ (¬ rd (A 21) y = 3)) => ?_)
              · refine R_s (P := inI (y + 1) ∧ True) (f' := (94, [some (vR 74), some (vR 2), some (vR 20), some (vI Y), some (vI yr), some (vI rest), some (vI (y + 1))], [], LAY (u (u (u (u (u A 75 l75) 11 b11) 78 b78) 77 b77) 76 w) (u (u F 14 mg) 15 lo), 0, 0)) hc27 2 rfl ⟨⟨by omega, by omega⟩, trivial⟩ ?_
                refine ihj (j + 1) _ _ (by omega) hw (fun q hq => ?_) (by omega) (by omega)
                rw [hzw q hq]
                by_cases e3 : rd (Q 0) q = 3 ∧ q < j
                · rw [if_pos e3, if_pos ⟨e3.1, by omega⟩]
                · have a2 : ¬ (rd (Q 0) q = 3 ∧ q < j + 1) := fun z => by
                    have e2 : q = j := by
                      refine Classical.byContradiction (fun z2 => e3 ⟨z.1, by omega⟩)
                    have z3 := z.1
                    rw [e2] at z3
                    omega
                  rw [if_neg e3, if_neg a2]
              · refine R_s (P := (0 ≤ y ∧ y < ((w).length : Int)) ∧ inI (y + 1) ∧ True) (f' := (94, [some (vR 74), some (vR 2), some (vR 20), some (vI Y), some (vI yr), some (vI rest), some (vI (y + 1))], [], LAY (u (u (u (u (u A 75 l75) 11 b11) 78 b78) 77 b77) 76 (wr w y rest)) (u (u F 14 mg) 15 lo), 0, 0)) hc27 7 rfl ⟨⟨by omega, by omega⟩, ⟨by omega, by omega⟩, trivial⟩ ?_
                refine ihj (j + 1) _ _ (by omega) (by rw [wr_len]; exact hw) (fun q hq => ?_) (by omega) (by omega)
                rw [rd_wr (by omega) (by omega) (by omega)]
                by_cases e9 : (q : Int) = y
                · have e2 : q = j := by omega
                  have a2 : rd (Q 0) q = 3 ∧ q < j + 1 := ⟨by rw [e2]; omega, by omega⟩
                  rw [if_pos e9, if_pos a2]
                · rw [if_neg e9, hzw q hq]
                  by_cases e3 : rd (Q 0) q = 3 ∧ q < j
                  · rw [if_pos e3, if_pos ⟨e3.1, by omega⟩]
                  · rw [if_neg e3, if_neg (fun z => e3 ⟨z.1, by omega⟩)]
        refine R_s (P := True) (f' := (94, [some (vR 74), some (vR 2), some (vR 20), some (vI Y), some (vI yr), some (vI rest), some (vI 0)], [], LAY (u (u (u (u (u A 75 l75) 11 b11) 78 b78) 77 b77) 76 b76) (u (u F 14 mg) 15 lo), 0, 0)) hc27 0 rfl trivial ?_
        refine lp2 (e + 1) 0 _ _ rfl hb76 (fun q hq => ?_) (by omega) (by omega)
        have a2 : ¬ (rd (Q 0) q = 1 ∧ i ≤ q) := fun z => by omega
        have a3 : ¬ (rd (Q 0) q = 3 ∧ q < 0) := fun z => by omega
        rw [hz6 q hq, if_neg a2, if_neg a3]
      · refine R_s (P := (0 ≤ x ∧ x < ((l75).length : Int)) ∧ True) (f' := (58, [some (vR 74), some (vR 2), some (vR 20), some (vI Y), some (vI yr), some (vI rest), some (vI x)], [vI (rd l75 x)], LAY (u (u (u (u (u A 75 l75) 11 b11) 78 b78) 77 b77) 76 b76) (u (u F 14 mg) 15 lo), 0, 0)) hc27 4 rfl ⟨⟨by omega, by omega⟩, trivial⟩ ?_
        refine R_if (t := 85) hc27 rfl rfl (fun (c2 : rd l75 x = 0) => ?_) (fun (c2 : ¬ (rd l75 x = 0)) => ?_)
        · refine R_s (P := inI (x + 1) ∧ True) (f' := (42, [some (vR 74), some (vR 2), some (vR 20), some (vI Y), some (vI yr), some (vI rest), some (vI (x + 1))], [], LAY (u (u (u (u (u A 75 l75) 11 b11) 78 b78) 77 b77) 76 b76) (u (u F 14 mg) 15 lo), 0, 0)) hc27 2 rfl ⟨⟨by omega, by omega⟩, trivial⟩ ?_
          have a1 : ¬ (so i = 1 ∧ rd (Q 0) i = 1) := fun q => by omega
          refine ih (i + 1) _ _ _ _ _ _ (by omega) hb11 hb78 hb77 hb76 ?_ (fun j hj => ?_) (fun p hp => ?_) (by omega) (by omega)
          · rw [hr]
            simp only [S_rs]
            rw [if_neg a1]
            omega
          · rw [hz6 j hj]
            by_cases e3 : rd (Q 0) j = 1 ∧ i ≤ j
            · rw [if_pos e3]
              by_cases e2 : j = i
              · have a2 : ¬ (rd (Q 0) j = 1 ∧ i + 1 ≤ j) := fun q => by omega
                have a3 : ¬ so j = 1 := fun q => a1 (by rw [← e2]; exact ⟨q, e3.1⟩)
                rw [if_neg a2]
                unfold S_ge
                rw [if_neg (by omega), if_pos e3.1, if_neg a3]
              · rw [if_pos ⟨e3.1, by omega⟩]
            · rw [if_neg e3, if_neg (fun q => e3 ⟨q.1, by omega⟩)]
          · rw [hz7 p hp]
            simp only [S_ls]
            rw [if_neg a1]
            omega
        · refine R_s (P := (0 ≤ x ∧ x < ((A 21).length : Int)) ∧ True) (f' := (69, [some (vR 74), some (vR 2), some (vR 20), some (vI Y), some (vI yr), some (vI rest), some (vI x)], [vI 1, vI (rd (A 21) x)], LAY (u (u (u (u (u A 75 l75) 11 b11) 78 b78) 77 b77) 76 b76) (u (u F 14 mg) 15 lo), 0, 0)) hc27 5 rfl ⟨⟨by omega, by omega⟩, trivial⟩ ?_
          refine R_ic (t := 85) hc27 rfl rfl (fun (c3 : ¬ rd (A 21) x = 1) => ?_) (fun (c3 : ¬ (¬ rd (A 21) x = 1)) => ?_)
          · refine R_s (P := inI (x + 1) ∧ True) (f' := (42, [some (vR 74), some (vR 2), some (vR 20), some (vI Y), some (vI yr), some (vI rest), some (vI (x + 1))], [], LAY (u (u (u (u (u A 75 l75) 11 b11) 78 b78) 77 b77) 76 b76) (u (u F 14 mg) 15 lo), 0, 0)) hc27 2 rfl ⟨⟨by omega, by omega⟩, trivial⟩ ?_
            have a1 : ¬ (so i = 1 ∧ rd (Q 0) i = 1) := fun q => by omega
            refine ih (i + 1) _ _ _ _ _ _ (by omega) hb11 hb78 hb77 hb76 ?_ (fun j hj => ?_) (fun p hp => ?_) (by omega) (by omega)
            · rw [hr]
              simp only [S_rs]
              rw [if_neg a1]
              omega
            · rw [hz6 j hj]
              by_cases e3 : rd (Q 0) j = 1 ∧ i ≤ j
              · rw [if_pos e3]
                by_cases e2 : j = i
                · have a2 : ¬ (rd (Q 0) j = 1 ∧ i + 1 ≤ j) := fun q => by omega
                  have a3 : ¬ so j = 1 := fun q => a1 (by rw [← e2]; exact ⟨q, e3.1⟩)
                  rw [if_neg a2]
                  unfold S_ge
                  rw [if_neg (by omega), if_pos e3.1, if_neg a3]
                · rw [if_pos ⟨e3.1, by omega⟩]
              · rw [if_neg e3, if_neg (fun q => e3 ⟨q.1, by omega⟩)]
            · rw [hz7 p hp]
              simp only [S_ls]
              rw [if_neg a1]
              omega
          · refine R_s (P := True) (f' := (79, [some (vR 74), some (vR 2), some (vR 20), some (vI Y), some (vI yr), some (vI rest), some (vI x)], [vI x, vR 20, vR 2, vR 74, vI rest], LAY (u (u (u (u (u A 75 l75) 11 b11) 78 b78) 77 b77) 76 b76) (u (u F 14 mg) 15 lo), 0, 0)) hc27 5 rfl trivial ?_
            refine R_cv hc27 rfl rfl (l_payLine0 (A := (u (u (u (u (u A 75 l75) 11 b11) 78 b78) 77 b77) 76 b76)) (F := (u (u F 14 mg) 15 lo)) (LENS_u (LENS_u (LENS_u (LENS_u (LENS_u hL (by show (l75).length = (A 75).length; rw [hl75, h75])) (by show (b11).length = (A 11).length; rw [hb11, h11])) (by show (b78).length = (A 78).length; rw [hb78, h78])) (by show (b77).length = (A 77).length; rw [hb77, h77])) (by show (b76).length = (A 76).length; rw [hb76, h76])) hn hn30 hT hal ha hQ hF q0 q1 q2 q3 q4 q5 q6 q7 hCH ex (i := i) (by omega) (by omega) (lo := lo) hlb rfl (by show rd b76 i = 0; have a1 : rd (Q 0) i = 1 ∧ i ≤ i := ⟨by omega, by omega⟩; rw [hz6 i (by omega), if_pos a1]) hb) (fun r G9 hp9 => ?_)
            obtain ⟨rfl, c11, c76, c77, c78, rfl, hg11, hg76, hg77, hg78, hy60, hy70⟩ := hp9
            have hy6 : ∀ j : Nat, j < 6 → rd c76 j = if j = i then S_le n (A 3) al Q lo i else rd b76 j := hy60
            have hy7 : ∀ p : Nat, p < n → rd c77 p = rd b77 p + S_am n (A 3) al Q lo i p := hy70
            refine R_s (f' := (82, [some (vR 74), some (vR 2), some (vR 20), some (vI Y), some (vI yr), some (vI rest), some (vI x)], [vI (S_le n (A 3) al Q lo i), vI rest], LAY (u (u (u (u (u A 75 l75) 11 c11) 78 c78) 77 c77) 76 c76) (u (u F 14 mg) 15 lo), 0, 0)) hc27 0 rfl trivial ?_
            refine R_s (P := inI (rest - (S_le n (A 3) al Q lo i)) ∧ inI (x + 1) ∧ True) (f' := (42, [some (vR 74), some (vR 2), some (vR 20), some (vI Y), some (vI yr), some (vI (rest - (S_le n (A 3) al Q lo i))), some (vI (x + 1))], [], LAY (u (u (u (u (u A 75 l75) 11 c11) 78 c78) 77 c77) 76 c76) (u (u F 14 mg) 15 lo), 0, 0)) hc27 4 rfl ⟨⟨by omega, by omega⟩, ⟨by omega, by omega⟩, trivial⟩ ?_
            have a1 : so i = 1 ∧ rd (Q 0) i = 1 := ⟨by omega, by omega⟩
            refine ih (i + 1) _ _ _ _ _ _ (by omega) hg11 hg78 hg77 hg76 ?_ (fun j hj => ?_) (fun p hp => ?_) (by omega) (by omega)
            · rw [hr]
              simp only [S_rs]
              rw [if_pos a1]
            · rw [hy6 j (by omega)]
              by_cases e2 : j = i
              · have a2 : ¬ (rd (Q 0) j = 1 ∧ i + 1 ≤ j) := fun q => by omega
                rw [if_pos e2, if_neg a2, e2]
                unfold S_ge
                rw [if_neg (by omega), if_pos a1.2, if_pos a1.1]
              · rw [if_neg e2, hz6 j hj]
                by_cases e3 : rd (Q 0) j = 1 ∧ i ≤ j
                · rw [if_pos e3, if_pos ⟨e3.1, by omega⟩]
                · rw [if_neg e3, if_neg (fun q => e3 ⟨q.1, by omega⟩)]
            · rw [hy7 p hp, hz7 p hp]
              simp only [S_ls]
              rw [if_pos a1]
              omega
  refine R_s (P := True) (f' := (42, [some (vR 74), some (vR 2), some (vR 20), some (vI Y), some (vI yr), some (vI lo), some (vI 0)], [], LAY (u (u (u (u (u A 75 l75) 11 m11) 78 (A 78)) 77 m77) 76 f76) (u (u F 14 mg) 15 lo), 0, 0)) hc27 0 rfl trivial ?_
  refine lp (e + 1) 0 _ _ _ _ _ _ rfl hm11 h78 hm77 hf76 rfl (fun j hj => ?_) (fun p hp => ?_) (by omega) (by omega)
  · have hk := hQ.2.2.2 j hj
    rw [hz4 j (by omega), hz1 j (by omega)]
    by_cases e1 : rd (Q 0) j = 1
    · have a1 : ¬ (j < e ∧ so j = 1 ∧ rd (Q 0) j = 0) := fun z => by omega
      have a2 : rd (Q 0) j = 1 ∧ 0 ≤ j := ⟨e1, by omega⟩
      rw [if_neg a1, if_pos a2]
      split
      · rename_i e2
        have e3 := hmg
        unfold S_mg at e3
        rw [if_neg (fun z => by rw [e2] at e1; have z2 : rd (Q 0) ((0 : Nat) : Int) = 2 := z.1; omega)] at e3
        rw [hpm, e3]
        rfl
      · rfl
    · rw [show (if rd (Q 0) j = 1 ∧ 0 ≤ j then (0 : Int) else S_ge n (A 3) al Q so pm (Y - pm) lo j) = S_ge n (A 3) al Q so pm (Y - pm) lo j from if_neg (fun z => e1 z.1)]
      unfold S_ge
      rw [if_neg (c := rd (Q 0) j = 1) e1]
      by_cases e2 : rd (Q 0) j = 2
      · have e3 : j = 0 := (hk.2.2.1 e2).1
        rw [if_pos e2, if_neg (fun z => by omega), if_pos e3]
      · rw [if_neg e2]
        by_cases e4 : so j = 1 ∧ rd (Q 0) j = 0
        · rw [if_pos ⟨hj, e4.1, e4.2⟩]
        · rw [if_neg (fun z => e4 z.2)]
          rw [show S_fe Q so (S_fx Q so (Y - pm) j) j = 0 by (unfold S_fe; rw [if_neg e4])]
          split
          · rename_i e5
            have e3 := hmg
            unfold S_mg at e3
            rw [if_neg (fun z => e2 (by rw [e5]; exact z.1))] at e3
            rw [hpm, e3]
            rfl
          · rfl
  · rw [hz2 p hp]
    simp only [S_ls]
    omega
theorem l_reckon1 {A : Nat → List Int} {F : Nat → Int} {n : Nat} (hL : LENS A) (hn : (n : Int) = F 3) (hn30 : n ≤ 30) (hT : TR (A 3) n) {al : Nat → Int} (hal : ∀ p : Nat, p < n → rd (A 8) p = al p) (ha : ∀ p : Nat, p < n → al p = 0 ∨ al p = 1) {Q : Nat → List Int} {e : Nat} (hQ : QOK n Q e) (hF : F 9 = e) (q0 : A 30 = Q 0) (q1 : A 31 = Q 1) (q2 : A 32 = Q 2) (q3 : A 33 = Q 3) (q4 : A 34 = Q 4) (q5 : A 35 = Q 5) (q6 : A 36 = Q 6) (q7 : A 37 = Q 7) (hCH : ∀ p : Nat, p < n → rd (A 9) p = CN (A 3) n al p ∧ rd (A 10) p = HR (A 3) n al p) {yr Y : Int} (hY : 0 ≤ Y ∧ Y ≤ 99990) {so : Nat → Int} (hso9 : so = T_so n yr Y (A 3) al Q e) {mg pm lo : Int} (hmg : mg = S_mg n (A 3) (A 4) al Q so) (hpm : pm = S_pm Y Q mg) (hlo : lo = S_fx Q so (Y - pm) e) : R 27 (0, L0 27 [vR 74, vR 2, vR 29, vI Y, vI yr], [], LAY A F, 0, 0) (fun r G => r = none ∧ ∃ l11 l75 l76 l77 l78, G = LAY (u (u (u (u (u A 75 l75) 11 l11) 78 l78) 77 l77) 76 l76) (u (u F 14 mg) 15 lo) ∧ l11.length = 30 ∧ l75.length = 6 ∧ l76.length = 6 ∧ l77.length = 30 ∧ l78.length = 30 ∧ (∀ i : Nat, i < e → rd l75 i = so i) ∧ (∀ j : Nat, j < e → rd l76 j = S_te n (A 3) al Q so pm (Y - pm) lo e j) ∧ ∀ p : Nat, p < n → rd l77 p = (if mg = p then pm else 0) + S_ls n (A 3) al Q so lo e p) := by
  have h11 : (A 11).length = 30 := hL 11 (by decide)
  have h75 : (A 75).length = 6 := hL 75 (by decide)
  have h76 : (A 76).length = 6 := hL 76 (by decide)
  have h77 : (A 77).length = 30 := hL 77 (by decide)
  have h78 : (A 78).length = 30 := hL 78 (by decide)
  have d0 : (A 30).length = 6 := hL 30 (by decide)
  have d1 : (A 31).length = 6 := hL 31 (by decide)
  have d2 : (A 32).length = 6 := hL 32 (by decide)
  have d3 : (A 33).length = 6 := hL 33 (by decide)
  have d4 : (A 34).length = 6 := hL 34 (by decide)
  have d5 : (A 35).length = 6 := hL 35 (by decide)
  have d6 : (A 36).length = 6 := hL 36 (by decide)
  have d7 : (A 37).length = 6 := hL 37 (by decide)
  have he1 := hQ.1
  have he2 := hQ.2.1
  have hs01 : ∀ i : Nat, so i = 0 ∨ so i = 1 := fun i => by rw [hso9]; exact S_so_01 i
  have hNe : ∀ j : Nat, j < e → rd (Q 0) j = 1 → 0 ≤ rd (Q 1) j ∧ rd (Q 1) j ≤ 12 := fun j hj hj2 => by
    have z := hQ.2.2.2 j hj
    exact ⟨by have := z.2.2.2.1; omega, (z.2.2.2.2.2.2.1 hj2).2⟩
  have hNf : ∀ j : Nat, j < e → rd (Q 0) j = 0 → 0 ≤ rd (Q 1) j := fun j hj hj2 => by
    have z := (hQ.2.2.2 j hj).2.2.2.1
    omega
  have hpb : 0 ≤ pm ∧ pm ≤ Y := by
    rw [hpm]
    refine S_pm_bd hY.1 (fun q => ?_)
    have z := hQ.2.2.2 0 (by omega)
    have z2 : rd (Q 0) 0 = 2 := by
      refine Classical.byContradiction (fun q2 => q ?_)
      rw [hmg]
      unfold S_mg
      rw [if_neg (fun q3 => q2 q3.1)]
    have z4 := z.2.2.2.1
    have z3 : rd (Q 0) ((0 : Nat) : Int) = 2 := z2
    have z5 : 0 ≤ rd (Q 1) ((0 : Nat) : Int) := by omega
    exact ⟨z5, (z.2.2.1 z2).2⟩
  have hlb : 0 ≤ lo ∧ lo ≤ 99990 := by
    have z := S_fx_bd (Q := Q) (so := so) (r := Y - pm) (by omega) e hNf
    rw [hlo]
    omega
  refine R_s (P := True) (f' := (1, [some (vR 74), some (vR 2), some (vR 29), some (vI Y), some (vI yr), none, none], [vR 74], LAY A F, 0, 0)) hc27 1 rfl trivial ?_
  refine R_cv hc27 rfl rfl (l_clear hL) (fun r G9 hp9 => ?_)
  obtain ⟨rfl, l76, l77, rfl, hl76, hl77, hz76, hz77⟩ := hp9
  refine R_s (f' := (4, [some (vR 74), some (vR 2), some (vR 29), some (vI Y), some (vI yr), none, none], [], LAY (u (u A 76 l76) 77 l77) (u F 14 (-1)), 0, 0)) hc27 0 rfl trivial ?_
  refine R_s (P := True) (f' := (10, [some (vR 74), some (vR 2), some (vR 29), some (vI Y), some (vI yr), none, none], [vI yr, vI Y, vR 29, vR 2, vR 74], LAY (u (u A 76 l76) 77 l77) (u F 14 (-1)), 0, 0)) hc27 5 rfl trivial ?_
  refine R_cv hc27 rfl rfl (l_judge1 (A := (u (u A 76 l76) 77 l77)) (F := (u F 14 (-1))) (LENS_u (LENS_u hL (by show (l76).length = (A 76).length; rw [hl76, h76])) (by show (l77).length = (A 77).length; rw [hl77, h77])) hn hn30 hT hal ha hQ hF q0 q1 q2 q3 q4 q5 q6 q7 (yr := yr) (Y := Y)) (fun r G9 hp9 => ?_)
  obtain ⟨rfl, l11, l75, rfl, hl11, hl75, hso0⟩ := hp9
  have hso : ∀ i : Nat, i < e → rd l75 i = so i := fun i hi => by rw [hso9]; exact hso0 i hi
  refine R_s (f' := (13, [some (vR 74), some (vR 2), some (vR 29), some (vI Y), some (vI yr), none, none], [], LAY (u (u (u (u A 76 l76) 77 l77) 11 l11) 75 l75) (u F 14 (-1)), 0, 0)) hc27 0 rfl trivial ?_
  refine R_s (P := True) (f' := (18, [some (vR 74), some (vR 2), some (vR 29), some (vI Y), some (vI yr), none, none], [vI Y, vR 29, vR 2, vR 74, vI Y], LAY (u (u (u (u A 76 l76) 77 l77) 11 l11) 75 l75) (u F 14 (-1)), 0, 0)) hc27 5 rfl trivial ?_
  refine R_cv hc27 rfl rfl (l_payManager1 (A := (u (u (u (u A 76 l76) 77 l77) 11 l11) 75 l75)) (F := (u F 14 (-1))) (LENS_u (LENS_u (LENS_u (LENS_u hL (by show (l76).length = (A 76).length; rw [hl76, h76])) (by show (l77).length = (A 77).length; rw [hl77, h77])) (by show (l11).length = (A 11).length; rw [hl11, h11])) (by show (l75).length = (A 75).length; rw [hl75, h75])) hn hn30 hT hal ha hQ hF q0 q1 q2 q3 q4 q5 q6 q7 hY hso hs01 hz76 hz77 rfl (mg := mg) (pm := pm) hmg hpm) (fun r G9 hp9 => ?_)
  obtain ⟨rfl, m11, m76, m77, rfl, hm11, hm76, hm77, hz1, hz2⟩ := hp9
  refine R_s (f' := (21, [some (vR 74), some (vR 2), some (vR 29), some (vI Y), some (vI yr), none, none], [vI pm, vI Y], LAY (u (u (u (u A 75 l75) 11 m11) 76 m76) 77 m77) (u F 14 mg), 0, 0)) hc27 0 rfl trivial ?_
  refine R_s (P := inI (Y - pm) ∧ True) (f' := (28, [some (vR 74), some (vR 2), some (vR 29), some (vI Y), some (vI yr), some (vI (Y - pm)), none], [vI (Y - pm), vR 29, vR 74], LAY (u (u (u (u A 75 l75) 11 m11) 76 m76) 77 m77) (u F 14 mg), 0, 0)) hc27 5 rfl ⟨⟨by omega, by omega⟩, trivial⟩ ?_
  refine R_cv hc27 rfl rfl (l_payFixed1 (A := (u (u (u (u A 75 l75) 11 m11) 76 m76) 77 m77)) (F := (u F 14 mg)) (LENS_u (LENS_u (LENS_u (LENS_u hL (by show (l75).length = (A 75).length; rw [hl75, h75])) (by show (m11).length = (A 11).length; rw [hm11, h11])) (by show (m76).length = (A 76).length; rw [hm76, h76])) (by show (m77).length = (A 77).length; rw [hm77, h77])) hn hn30 hQ hF q0 q1 q2 q3 q4 q5 q6 q7 (r0 := Y - pm) ⟨by omega, by omega⟩ hso hs01) (fun r G9 hp9 => ?_)
  obtain ⟨e1, f76, rfl, hf76, hz3⟩ := hp9
  rw [← hlo] at e1
  subst e1
  have hz4 : ∀ j : Nat, j < 6 → rd f76 j = if j < e ∧ so j = 1 ∧ rd (Q 0) j = 0 then S_fe Q so (S_fx Q so (Y - pm) j) j else rd m76 j := hz3
  refine R_s (f' := (31, [some (vR 74), some (vR 2), some (vR 29), some (vI Y), some (vI yr), some (vI (Y - pm)), none], [vI lo], LAY (u (u (u (u A 75 l75) 11 m11) 77 m77) 76 f76) (u F 14 mg), 0, 0)) hc27 0 rfl trivial ?_
  refine R_s (P := True) (f' := (42, [some (vR 74), some (vR 2), some (vR 29), some (vI Y), some (vI yr), some (vI lo), some (vI 0)], [], LAY (u (u (u (u A 75 l75) 11 m11) 77 m77) 76 f76) (u (u F 14 mg) 15 lo), 0, 0)) hc27 6 rfl trivial ?_
  have lp : ∀ (m i : Nat) (x : Int) (rest : Int) (b11 : List Int) (b78 : List Int) (b77 : List Int) (b76 : List Int), x = (i : Int) → b11.length = 30 → b78.length = 30 → b77.length = 30 → b76.length = 6 → rest = S_rs n (A 3) al Q so lo i → (∀ j : Nat, j < e → rd b76 j = if rd (Q 0) j = 1 ∧ i ≤ j then 0 else S_ge n (A 3) al Q so pm (Y - pm) lo j) → (∀ p : Nat, p < n → rd b77 p = (if mg = p then pm else 0) + S_ls n (A 3) al Q so lo i p) → i ≤ e → e + 1 ≤ i + m → R 27 (42, [some (vR 74), some (vR 2), some (vR 29), some (vI Y), some (vI yr), some (vI rest), some (vI x)], [], LAY (u (u (u (u (u A 75 l75) 11 b11) 78 b78) 77 b77) 76 b76) (u (u F 14 mg) 15 lo), 0, 0) (fun r G => r = none ∧ ∃ l11 l75 l76 l77 l78, G = LAY (u (u (u (u (u A 75 l75) 11 l11) 78 l78) 77 l77) 76 l76) (u (u F 14 mg) 15 lo) ∧ l11.length = 30 ∧ l75.length = 6 ∧ l76.length = 6 ∧ l77.length = 30 ∧ l78.length = 30 ∧ (∀ i : Nat, i < e → rd l75 i = so i) ∧ (∀ j : Nat, j < e → rd l76 j = S_te n (A 3) al Q so pm (Y - pm) lo e j) ∧ ∀ p : Nat, p < n → rd l77 p = (if mg = p then pm else 0) + S_ls n (A 3) al Q so lo e p) := by
    intro m
    induction m with
    | zero =>
      intro i x rest b11 b78 b77 b76 ex hb11 hb78 hb77 hb76 hr hz6 hz7 hi hm
      exact absurd hm (by omega)
    | succ m ih =>
      intro i x rest b11 b78 b77 b76 ex hb11 hb78 hb77 hb76 hr hz6 hz7 hi hm
      have k0 : rd (A 30) x = rd (Q 0) i := by rw [q0, ex]
      have ks : i < e → rd l75 x = so i := fun q => by rw [ex]; exact hso i q
      have hs1 := hs01 i
      have il : (i : Int) * lo ≤ 6 * lo := Int.mul_le_mul_of_nonneg_right (by omega) hlb.1
      have il2 : (i : Int) * (30 * lo) ≤ 6 * (30 * lo) := Int.mul_le_mul_of_nonneg_right (by omega) (by omega)
      have hb : ∀ p : Nat, p < n → 0 ≤ rd b77 p ∧ rd b77 p ≤ 1000000 := fun p hp => by
        have z2 := S_ls_bd (so := so) (Q := Q) ha hT hn30 hp hlb.1 i (by omega) (fun j hj => hNe j (by omega))
        rw [hz7 p hp]
        split <;> omega
      have hrb := S_rs_bd (so := so) (Q := Q) ha hT hn30 hlb.1 i (by omega) (fun j hj => hNe j (by omega))
      have hleb : i < e → rd (Q 0) i = 1 → 0 ≤ S_le n (A 3) al Q lo i ∧ S_le n (A 3) al Q lo i ≤ 30 * lo := fun q1 q2 => S_le_bd ha hT hn30 hlb.1 (hNe i q1 q2)
      refine R_s (P := True) (f' := (48, [some (vR 74), some (vR 2), some (vR 29), some (vI Y), some (vI yr), some (vI rest), some (vI x)], [vI (F 9), vI x], LAY (u (u (u (u (u A 75 l75) 11 b11) 78 b78) 77 b77) 76 b76) (u (u F 14 mg) 15 lo), 0, 0)) hc27 3 rfl trivial ?_
      refine R_ic (t := 91) hc27 rfl rfl (fun (c1 : F 9 ≤ x) => ?_) (fun (c1 : ¬ (F 9 ≤ x)) => ?_)
      · refine R_s (P := True) (f' := (94, [some (vR 74), some (vR 2), some (vR 29), some (vI Y), some (vI yr), some (vI rest), some (vI 0)], [], LAY (u (u (u (u (u A 75 l75) 11 b11) 78 b78) 77 b77) 76 b76) (u (u F 14 mg) 15 lo), 0, 0)) hc27 2 rfl trivial ?_
        have lp2 : ∀ (mj j : Nat) (y : Int) (w : List Int), y = (j : Int) → w.length = 6 → (∀ q : Nat, q < e → rd w q = if rd (Q 0) q = 3 ∧ q < j then rest else S_ge n (A 3) al Q so pm (Y - pm) lo q) → j ≤ e → e + 1 ≤ j + mj → R 27 (94, [some (vR 74), some (vR 2), some (vR 29), some (vI Y), some (vI yr), some (vI rest), some (vI y)], [], LAY (u (u (u (u (u A 75 l75) 11 b11) 78 b78) 77 b77) 76 w) (u (u F 14 mg) 15 lo), 0, 0) (fun r G => r = none ∧ ∃ l11 l75 l76 l77 l78, G = LAY (u (u (u (u (u A 75 l75) 11 l11) 78 l78) 77 l77) 76 l76) (u (u F 14 mg) 15 lo) ∧ l11.length = 30 ∧ l75.length = 6 ∧ l76.length = 6 ∧ l77.length = 30 ∧ l78.length = 30 ∧ (∀ i : Nat, i < e → rd l75 i = so i) ∧ (∀ j : Nat, j < e → rd l76 j = S_te n (A 3) al Q so pm (Y - pm) lo e j) ∧ ∀ p : Nat, p < n → rd l77 p = (if mg = p then pm else 0) + S_ls n (A 3) al Q so lo e p) := by
          intro mj
          induction mj with
          | zero =>
            intro j y w ey hw hzw hj hmj
            exact absurd hmj (by omega)
          | succ mj ihj =>
            intro j y w ey hw hzw hj hmj
            have k0 : rd (A 30) y = rd (Q 0) j := by rw [q0, ey]
            have hk3 := fun q : j < e => (hQ.2.2.2 j q).2.1
            refine R_s (P := True) (f' := (100, [some (vR 74), some (vR 2), some (vR 29), some (vI Y), some (vI yr), some (vI rest), some (vI y)], [vI (F 9), vI y], LAY (u (u (u (u (u A 75 l75) 11 b11) 78 b78) 77 b77) 76 w) (u (u F 14 mg) 15 lo), 0, 0)) hc27 3 rfl trivial ?_
            refine R_ic (t := 129) hc27 rfl rfl (fun (c1 : F 9 ≤ y) => ?_) (fun (c1 : ¬ (F 9 ≤ y)) => ?_)
            · refine R_retv hc27 rfl rfl ⟨rfl, b11, l75, w, b77, b78, rfl, hb11, hl75, hw, hb77, hb78, hso, fun q hq => ?_, fun p hp => ?_⟩
              · rw [hzw q hq]
                unfold S_te
                by_cases e3 : rd (Q 0) q = 3
                · rw [if_pos e3, if_pos ⟨e3, by omega⟩, hr, show i = e by omega]
                · rw [if_neg e3, if_neg (fun z => e3 z.1)]
              · rw [hz7 p hp, show i = e by omega]
            · refine R_s (P := (0 ≤ y ∧ y < ((A 30).length : Int)) ∧ True) (f' := (111, [some (vR 74), some (vR 2), some (vR 29), some (vI Y), some (vI yr), some (vI rest), some (vI y)], [vI 3, vI (rd (A 30) y)], LAY (u (u (u (u (u A 75 l75) 11 b11) 78 b78) 77 b77) 76 w) (u (u F 14 mg) 15 lo), 0, 0)) hc27 5 rfl ⟨⟨by omega, by omega⟩, trivial⟩ ?_
              refine R_ic (t := 123) hc27 rfl rfl (fun (c2 : ¬ rd (A 30) y = 3) => ?_) (fun (c2 : ¬ (¬ rd (A 30) y = 3)) => ?_)
              · refine R_s (P := inI (y + 1) ∧ True) (f' := (94, [some (vR 74), some (vR 2), some (vR 29), some (vI Y), some (vI yr), some (vI rest), some (vI (y + 1))], [], LAY (u (u (u (u (u A 75 l75) 11 b11) 78 b78) 77 b77) 76 w) (u (u F 14 mg) 15 lo), 0, 0)) hc27 2 rfl ⟨⟨by omega, by omega⟩, trivial⟩ ?_
                refine ihj (j + 1) _ _ (by omega) hw (fun q hq => ?_) (by omega) (by omega)
                rw [hzw q hq]
                by_cases e3 : rd (Q 0) q = 3 ∧ q < j
                · rw [if_pos e3, if_pos ⟨e3.1, by omega⟩]
                · have a2 : ¬ (rd (Q 0) q = 3 ∧ q < j + 1) := fun z => by
                    have e2 : q = j := by
                      refine Classical.byContradiction (fun z2 => e3 ⟨z.1, by omega⟩)
                    have z3 := z.1
                    rw [e2] at z3
                    omega
                  rw [if_neg e3, if_neg a2]
              · refine R_s (P := (0 ≤ y ∧ y < ((w).length : Int)) ∧ inI (y + 1) ∧ True) (f' := (94, [some (vR 74), some (vR 2), some (vR 29), some (vI Y), some (vI yr), some (vI rest), some (vI (y + 1))], [], LAY (u (u (u (u (u A 75 l75) 11 b11) 78 b78) 77 b77) 76 (wr w y rest)) (u (u F 14 mg) 15 lo), 0, 0)) hc27 7 rfl ⟨⟨by omega, by omega⟩, ⟨by omega, by omega⟩, trivial⟩ ?_
                refine ihj (j + 1) _ _ (by omega) (by rw [wr_len]; exact hw) (fun q hq => ?_) (by omega) (by omega)
                rw [rd_wr (by omega) (by omega) (by omega)]
                by_cases e9 : (q : Int) = y
                · have e2 : q = j := by omega
                  have a2 : rd (Q 0) q = 3 ∧ q < j + 1 := ⟨by rw [e2]; omega, by omega⟩
                  rw [if_pos e9, if_pos a2]
                · rw [if_neg e9, hzw q hq]
                  by_cases e3 : rd (Q 0) q = 3 ∧ q < j
                  · rw [if_pos e3, if_pos ⟨e3.1, by omega⟩]
                  · rw [if_neg e3, if_neg (fun z => e3 ⟨z.1, by omega⟩)]
        refine R_s (P := True) (f' := (94, [some (vR 74), some (vR 2), some (vR 29), some (vI Y), some (vI yr), some (vI rest), some (vI 0)], [], LAY (u (u (u (u (u A 75 l75) 11 b11) 78 b78) 77 b77) 76 b76) (u (u F 14 mg) 15 lo), 0, 0)) hc27 0 rfl trivial ?_
        refine lp2 (e + 1) 0 _ _ rfl hb76 (fun q hq => ?_) (by omega) (by omega)
        have a2 : ¬ (rd (Q 0) q = 1 ∧ i ≤ q) := fun z => by omega
        have a3 : ¬ (rd (Q 0) q = 3 ∧ q < 0) := fun z => by omega
        rw [hz6 q hq, if_neg a2, if_neg a3]
      · refine R_s (P := (0 ≤ x ∧ x < ((l75).length : Int)) ∧ True) (f' := (58, [some (vR 74), some (vR 2), some (vR 29), some (vI Y), some (vI yr), some (vI rest), some (vI x)], [vI (rd l75 x)], LAY (u (u (u (u (u A 75 l75) 11 b11) 78 b78) 77 b77) 76 b76) (u (u F 14 mg) 15 lo), 0, 0)) hc27 4 rfl ⟨⟨by omega, by omega⟩, trivial⟩ ?_
        refine R_if (t := 85) hc27 rfl rfl (fun (c2 : rd l75 x = 0) => ?_) (fun (c2 : ¬ (rd l75 x = 0)) => ?_)
        · refine R_s (P := inI (x + 1) ∧ True) (f' := (42, [some (vR 74), some (vR 2), some (vR 29), some (vI Y), some (vI yr), some (vI rest), some (vI (x + 1))], [], LAY (u (u (u (u (u A 75 l75) 11 b11) 78 b78) 77 b77) 76 b76) (u (u F 14 mg) 15 lo), 0, 0)) hc27 2 rfl ⟨⟨by omega, by omega⟩, trivial⟩ ?_
          have a1 : ¬ (so i = 1 ∧ rd (Q 0) i = 1) := fun q => by omega
          refine ih (i + 1) _ _ _ _ _ _ (by omega) hb11 hb78 hb77 hb76 ?_ (fun j hj => ?_) (fun p hp => ?_) (by omega) (by omega)
          · rw [hr]
            simp only [S_rs]
            rw [if_neg a1]
            omega
          · rw [hz6 j hj]
            by_cases e3 : rd (Q 0) j = 1 ∧ i ≤ j
            · rw [if_pos e3]
              by_cases e2 : j = i
              · have a2 : ¬ (rd (Q 0) j = 1 ∧ i + 1 ≤ j) := fun q => by omega
                have a3 : ¬ so j = 1 := fun q => a1 (by rw [← e2]; exact ⟨q, e3.1⟩)
                rw [if_neg a2]
                unfold S_ge
                rw [if_neg (by omega), if_pos e3.1, if_neg a3]
              · rw [if_pos ⟨e3.1, by omega⟩]
            · rw [if_neg e3, if_neg (fun q => e3 ⟨q.1, by omega⟩)]
          · rw [hz7 p hp]
            simp only [S_ls]
            rw [if_neg a1]
            omega
        · refine R_s (P := (0 ≤ x ∧ x < ((A 30).length : Int)) ∧ True) (f' := (69, [some (vR 74), some (vR 2), some (vR 29), some (vI Y), some (vI yr), some (vI rest), some (vI x)], [vI 1, vI (rd (A 30) x)], LAY (u (u (u (u (u A 75 l75) 11 b11) 78 b78) 77 b77) 76 b76) (u (u F 14 mg) 15 lo), 0, 0)) hc27 5 rfl ⟨⟨by omega, by omega⟩, trivial⟩ ?_
          refine R_ic (t := 85) hc27 rfl rfl (fun (c3 : ¬ rd (A 30) x = 1) => ?_) (fun (c3 : ¬ (¬ rd (A 30) x = 1)) => ?_)
          · refine R_s (P := inI (x + 1) ∧ True) (f' := (42, [some (vR 74), some (vR 2), some (vR 29), some (vI Y), some (vI yr), some (vI rest), some (vI (x + 1))], [], LAY (u (u (u (u (u A 75 l75) 11 b11) 78 b78) 77 b77) 76 b76) (u (u F 14 mg) 15 lo), 0, 0)) hc27 2 rfl ⟨⟨by omega, by omega⟩, trivial⟩ ?_
            have a1 : ¬ (so i = 1 ∧ rd (Q 0) i = 1) := fun q => by omega
            refine ih (i + 1) _ _ _ _ _ _ (by omega) hb11 hb78 hb77 hb76 ?_ (fun j hj => ?_) (fun p hp => ?_) (by omega) (by omega)
            · rw [hr]
              simp only [S_rs]
              rw [if_neg a1]
              omega
            · rw [hz6 j hj]
              by_cases e3 : rd (Q 0) j = 1 ∧ i ≤ j
              · rw [if_pos e3]
                by_cases e2 : j = i
                · have a2 : ¬ (rd (Q 0) j = 1 ∧ i + 1 ≤ j) := fun q => by omega
                  have a3 : ¬ so j = 1 := fun q => a1 (by rw [← e2]; exact ⟨q, e3.1⟩)
                  rw [if_neg a2]
                  unfold S_ge
                  rw [if_neg (by omega), if_pos e3.1, if_neg a3]
                · rw [if_pos ⟨e3.1, by omega⟩]
              · rw [if_neg e3, if_neg (fun q => e3 ⟨q.1, by omega⟩)]
            · rw [hz7 p hp]
              simp only [S_ls]
              rw [if_neg a1]
              omega
          · refine R_s (P := True) (f' := (79, [some (vR 74), some (vR 2), some (vR 29), some (vI Y), some (vI yr), some (vI rest), some (vI x)], [vI x, vR 29, vR 2, vR 74, vI rest], LAY (u (u (u (u (u A 75 l75) 11 b11) 78 b78) 77 b77) 76 b76) (u (u F 14 mg) 15 lo), 0, 0)) hc27 5 rfl trivial ?_
            refine R_cv hc27 rfl rfl (l_payLine1 (A := (u (u (u (u (u A 75 l75) 11 b11) 78 b78) 77 b77) 76 b76)) (F := (u (u F 14 mg) 15 lo)) (LENS_u (LENS_u (LENS_u (LENS_u (LENS_u hL (by show (l75).length = (A 75).length; rw [hl75, h75])) (by show (b11).length = (A 11).length; rw [hb11, h11])) (by show (b78).length = (A 78).length; rw [hb78, h78])) (by show (b77).length = (A 77).length; rw [hb77, h77])) (by show (b76).length = (A 76).length; rw [hb76, h76])) hn hn30 hT hal ha hQ hF q0 q1 q2 q3 q4 q5 q6 q7 hCH ex (i := i) (by omega) (by omega) (lo := lo) hlb rfl (by show rd b76 i = 0; have a1 : rd (Q 0) i = 1 ∧ i ≤ i := ⟨by omega, by omega⟩; rw [hz6 i (by omega), if_pos a1]) hb) (fun r G9 hp9 => ?_)
            obtain ⟨rfl, c11, c76, c77, c78, rfl, hg11, hg76, hg77, hg78, hy60, hy70⟩ := hp9
            have hy6 : ∀ j : Nat, j < 6 → rd c76 j = if j = i then S_le n (A 3) al Q lo i else rd b76 j := hy60
            have hy7 : ∀ p : Nat, p < n → rd c77 p = rd b77 p + S_am n (A 3) al Q lo i p := hy70
            refine R_s (f' := (82, [some (vR 74), some (vR 2), some (vR 29), some (vI Y), some (vI yr), some (vI rest), some (vI x)], [vI (S_le n (A 3) al Q lo i), vI rest], LAY (u (u (u (u (u A 75 l75) 11 c11) 78 c78) 77 c77) 76 c76) (u (u F 14 mg) 15 lo), 0, 0)) hc27 0 rfl trivial ?_
            refine R_s (P := inI (rest - (S_le n (A 3) al Q lo i)) ∧ inI (x + 1) ∧ True) (f' := (42, [some (vR 74), some (vR 2), some (vR 29), some (vI Y), some (vI yr), some (vI (rest - (S_le n (A 3) al Q lo i))), some (vI (x + 1))], [], LAY (u (u (u (u (u A 75 l75) 11 c11) 78 c78) 77 c77) 76 c76) (u (u F 14 mg) 15 lo), 0, 0)) hc27 4 rfl ⟨⟨by omega, by omega⟩, ⟨by omega, by omega⟩, trivial⟩ ?_
            have a1 : so i = 1 ∧ rd (Q 0) i = 1 := ⟨by omega, by omega⟩
            refine ih (i + 1) _ _ _ _ _ _ (by omega) hg11 hg78 hg77 hg76 ?_ (fun j hj => ?_) (fun p hp => ?_) (by omega) (by omega)
            · rw [hr]
              simp only [S_rs]
              rw [if_pos a1]
            · rw [hy6 j (by omega)]
              by_cases e2 : j = i
              · have a2 : ¬ (rd (Q 0) j = 1 ∧ i + 1 ≤ j) := fun q => by omega
                rw [if_pos e2, if_neg a2, e2]
                unfold S_ge
                rw [if_neg (by omega), if_pos a1.2, if_pos a1.1]
              · rw [if_neg e2, hz6 j hj]
                by_cases e3 : rd (Q 0) j = 1 ∧ i ≤ j
                · rw [if_pos e3, if_pos ⟨e3.1, by omega⟩]
                · rw [if_neg e3, if_neg (fun q => e3 ⟨q.1, by omega⟩)]
            · rw [hy7 p hp, hz7 p hp]
              simp only [S_ls]
              rw [if_pos a1]
              omega
  refine R_s (P := True) (f' := (42, [some (vR 74), some (vR 2), some (vR 29), some (vI Y), some (vI yr), some (vI lo), some (vI 0)], [], LAY (u (u (u (u (u A 75 l75) 11 m11) 78 (A 78)) 77 m77) 76 f76) (u (u F 14 mg) 15 lo), 0, 0)) hc27 0 rfl trivial ?_
  refine lp (e + 1) 0 _ _ _ _ _ _ rfl hm11 h78 hm77 hf76 rfl (fun j hj => ?_) (fun p hp => ?_) (by omega) (by omega)
  · have hk := hQ.2.2.2 j hj
    rw [hz4 j (by omega), hz1 j (by omega)]
    by_cases e1 : rd (Q 0) j = 1
    · have a1 : ¬ (j < e ∧ so j = 1 ∧ rd (Q 0) j = 0) := fun z => by omega
      have a2 : rd (Q 0) j = 1 ∧ 0 ≤ j := ⟨e1, by omega⟩
      rw [if_neg a1, if_pos a2]
      split
      · rename_i e2
        have e3 := hmg
        unfold S_mg at e3
        rw [if_neg (fun z => by rw [e2] at e1; have z2 : rd (Q 0) ((0 : Nat) : Int) = 2 := z.1; omega)] at e3
        rw [hpm, e3]
        rfl
      · rfl
    · rw [show (if rd (Q 0) j = 1 ∧ 0 ≤ j then (0 : Int) else S_ge n (A 3) al Q so pm (Y - pm) lo j) = S_ge n (A 3) al Q so pm (Y - pm) lo j from if_neg (fun z => e1 z.1)]
      unfold S_ge
      rw [if_neg (c := rd (Q 0) j = 1) e1]
      by_cases e2 : rd (Q 0) j = 2
      · have e3 : j = 0 := (hk.2.2.1 e2).1
        rw [if_pos e2, if_neg (fun z => by omega), if_pos e3]
      · rw [if_neg e2]
        by_cases e4 : so j = 1 ∧ rd (Q 0) j = 0
        · rw [if_pos ⟨hj, e4.1, e4.2⟩]
        · rw [if_neg (fun z => e4 z.2)]
          rw [show S_fe Q so (S_fx Q so (Y - pm) j) j = 0 by (unfold S_fe; rw [if_neg e4])]
          split
          · rename_i e5
            have e3 := hmg
            unfold S_mg at e3
            rw [if_neg (fun z => e2 (by rw [e5]; exact z.1))] at e3
            rw [hpm, e3]
            rfl
          · rfl
  · rw [hz2 p hp]
    simp only [S_ls]
    omega
