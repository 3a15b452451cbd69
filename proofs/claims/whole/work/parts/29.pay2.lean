theorem l_payFixed0 {A : Nat → List Int} {F : Nat → Int} {n : Nat} (hL : LENS A) (hn : (n : Int) = F 3) (hn30 : n ≤ 30) {Q : Nat → List Int} {e : Nat} (hQ : QOK n Q e) (hF : F 8 = e) (q0 : A 21 = Q 0) (q1 : A 22 = Q 1) (q2 : A 23 = Q 2) (q3 : A 24 = Q 3) (q4 : A 25 = Q 4) (q5 : A 26 = Q 5) (q6 : A 27 = Q 6) (q7 : A 28 = Q 7) {r0 : Int} (hr0 : 0 ≤ r0 ∧ r0 ≤ 99990) {so : Nat → Int} (hso : ∀ i : Nat, i < e → rd (A 75) i = so i) (hso1 : ∀ i : Nat, so i = 0 ∨ so i = 1) : R 31 (0, L0 31 [vR 74, vR 20, vI r0], [], LAY A F, 0, 0) (fun r G => r = some (vI (S_fx Q so r0 e)) ∧ ∃ l76, G = LAY (u A 76 l76) F ∧ l76.length = 6 ∧ ∀ j : Nat, j < 6 → rd l76 j = if j < e ∧ so j = 1 ∧ rd (Q 0) j = 0 then S_fe Q so (S_fx Q so r0 j) j else rd (A 76) j) := by
  have h75 : (A 75).length = 6 := hL 75 (by decide)
  have h76 : (A 76).length = 6 := hL 76 (by decide)
  have d0 : (A 21).length = 6 := hL 21 (by decide)
  have d1 : (A 22).length = 6 := hL 22 (by decide)
  have d2 : (A 23).length = 6 := hL 23 (by decide)
  have d3 : (A 24).length = 6 := hL 24 (by decide)
  have d4 : (A 25).length = 6 := hL 25 (by decide)
  have d5 : (A 26).length = 6 := hL 26 (by decide)
  have d6 : (A 27).length = 6 := hL 27 (by decide)
  have d7 : (A 28).length = 6 := hL 28 (by decide)
  have he1 := hQ.1
  have he2 := hQ.2.1
  have lp : ∀ (m i : Nat) (x : Int) (rest : Int) (l : List Int), x = (i : Int) → l.length = 6 → rest = S_fx Q so r0 i → (∀ j : Nat, j < 6 → rd l j = if j < i ∧ so j = 1 ∧ rd (Q 0) j = 0 then S_fe Q so (S_fx Q so r0 j) j else rd (A 76) j) → i ≤ e → e + 1 ≤ i + m → R 31 (5, [some (vR 74), some (vR 20), some (vI r0), some (vI rest), some (vI x)], [], LAY (u A 76 l) F, 0, 0) (fun r G => r = some (vI (S_fx Q so r0 e)) ∧ ∃ l76, G = LAY (u A 76 l76) F ∧ l76.length = 6 ∧ ∀ j : Nat, j < 6 → rd l76 j = if j < e ∧ so j = 1 ∧ rd (Q 0) j = 0 then S_fe Q so (S_fx Q so r0 j) j else rd (A 76) j) := by
    intro m
    induction m with
    | zero =>
      intro i x rest l ex hl hr hz hi hm
      exact absurd hm (by omega)
    | succ m ih =>
      intro i x rest l ex hl hr hz hi hm
      have k0 : rd (A 21) x = rd (Q 0) i := by rw [q0, ex]
      have k1 : rd (A 22) x = rd (Q 1) i := by rw [q1, ex]
      have ks : i < e → rd (A 75) x = so i := fun q => by rw [ex]; exact hso i q
      have hs1 := hso1 i
      have hk1 : i < e → rd (Q 0) i = 0 → 0 ≤ rd (Q 1) i ∧ rd (Q 1) i ≤ 9999 := fun q1 q2 => by have z := (hQ.2.2.2 i q1).2.2.2.1; omega
      have hfx := S_fx_bd (Q := Q) (so := so) hr0.1 i (fun j hj hj2 => by have z := (hQ.2.2.2 j (by omega)).2.2.2.1; omega)
      have hfe : i < e → 0 ≤ S_fe Q so (S_fx Q so r0 i) i ∧ S_fe Q so (S_fx Q so r0 i) i ≤ S_fx Q so r0 i := fun q => S_fe_bd hfx.1 (fun q2 => (hk1 q q2).1)
      have km : i < e → so i = 1 → rd (Q 0) i = 0 → mnI (rd (A 22) x) rest = S_fe Q so (S_fx Q so r0 i) i := fun q q1 q2 => by have a1 : so i = 1 ∧ rd (Q 0) i = 0 := ⟨q1, q2⟩; unfold mnI S_fe; rw [if_pos a1, k1, hr]; split <;> split <;> omega
      refine R_s (P := True) (f' := (11, [some (vR 74), some (vR 20), some (vI r0), some (vI rest), some (vI x)], [vI (F 8), vI x], LAY (u A 76 l) F, 0, 0)) hc31 3 rfl trivial ?_
      refine R_ic (t := 68) hc31 rfl rfl (fun (c1 : F 8 ≤ x) => ?_) (fun (c1 : ¬ (F 8 ≤ x)) => ?_)
      · refine R_s (P := True) (f' := (69, [some (vR 74), some (vR 20), some (vI r0), some (vI rest), some (vI x)], [vI rest], LAY (u A 76 l) F, 0, 0)) hc31 1 rfl trivial ?_
        exact R_reti hc31 rfl rfl ⟨by rw [hr, show i = e by omega], l, rfl, hl, fun j hj => by rw [hz j hj, show i = e by omega]⟩
      · refine R_s (P := (0 ≤ x ∧ x < ((A 75).length : Int)) ∧ True) (f' := (21, [some (vR 74), some (vR 20), some (vI r0), some (vI rest), some (vI x)], [vI (rd (A 75) x)], LAY (u A 76 l) F, 0, 0)) hc31 4 rfl ⟨⟨by omega, by omega⟩, trivial⟩ ?_
        refine R_if (t := 62) hc31 rfl rfl (fun (c2 : rd (A 75) x = 0) => ?_) (fun (c2 : ¬ (rd (A 75) x = 0)) => ?_)
        · refine R_s (P := inI (x + 1) ∧ True) (f' := (5, [some (vR 74), some (vR 20), some (vI r0), some (vI rest), some (vI (x + 1))], [], LAY (u A 76 l) F, 0, 0)) hc31 2 rfl ⟨⟨by omega, by omega⟩, trivial⟩ ?_
          refine ih (i + 1) _ _ _ (by omega) hl ?_ (fun j hj => ?_) (by omega) (by omega)
          · rw [hr]
            simp only [S_fx]
            rw [show S_fe Q so (S_fx Q so r0 i) i = 0 by (unfold S_fe; rw [if_neg (fun q => by omega)])]
            omega
          · rw [hz j hj]
            by_cases e3 : j < i
            · have e4 : j < i + 1 := by omega
              simp only [e3, e4, true_and]
            · rw [if_neg (fun q => e3 q.1), if_neg]
              intro q
              have e2 : j = i := by omega
              subst e2
              omega
        · refine R_s (P := (0 ≤ x ∧ x < ((A 21).length : Int)) ∧ True) (f' := (31, [some (vR 74), some (vR 20), some (vI r0), some (vI rest), some (vI x)], [vI (rd (A 21) x)], LAY (u A 76 l) F, 0, 0)) hc31 4 rfl ⟨⟨by omega, by omega⟩, trivial⟩ ?_
          refine R_if (t := 62) hc31 rfl rfl (fun (c3 : ¬ rd (A 21) x = 0) => ?_) (fun (c3 : ¬ (¬ rd (A 21) x = 0)) => ?_)
          · refine R_s (P := inI (x + 1) ∧ True) (f' := (5, [some (vR 74), some (vR 20), some (vI r0), some (vI rest), some (vI (x + 1))], [], LAY (u A 76 l) F, 0, 0)) hc31 2 rfl ⟨⟨by omega, by omega⟩, trivial⟩ ?_
            refine ih (i + 1) _ _ _ (by omega) hl ?_ (fun j hj => ?_) (by omega) (by omega)
            · rw [hr]
              simp only [S_fx]
              rw [show S_fe Q so (S_fx Q so r0 i) i = 0 by (unfold S_fe; rw [if_neg (fun q => by omega)])]
              omega
            · rw [hz j hj]
              by_cases e3 : j < i
              · have e4 : j < i + 1 := by omega
                simp only [e3, e4, true_and]
              · rw [if_neg (fun q => e3 q.1), if_neg]
                intro q
                have e2 : j = i := by omega
                subst e2
                omega
          · refine R_s (P := (0 ≤ x ∧ x < ((A 22).length : Int)) ∧ (0 ≤ x ∧ x < ((l).length : Int)) ∧ (0 ≤ x ∧ x < ((wr l x (mnI (rd (A 22) x) rest)).length : Int)) ∧ inI (rest - (rd (wr l x (mnI (rd (A 22) x) rest)) x)) ∧ inI (x + 1) ∧ True) (f' := (5, [some (vR 74), some (vR 20), some (vI r0), some (vI (rest - (rd (wr l x (mnI (rd (A 22) x) rest)) x))), some (vI (x + 1))], [], LAY (u A 76 (wr l x (mnI (rd (A 22) x) rest))) F, 0, 0)) hc31 19 rfl ⟨⟨by omega, by omega⟩, ⟨by omega, by omega⟩, ⟨by omega, by simp only [wr_len]; omega⟩, (by rw [rd_wr_s (by omega) (by omega), km (by omega) (by omega) (by omega)]; have z := hfe (by omega); unfold inI; omega), ⟨by omega, by omega⟩, trivial⟩ ?_
            refine ih (i + 1) _ _ _ (by omega) (by rw [wr_len]; exact hl) ?_ (fun j hj => ?_) (by omega) (by omega)
            · rw [rd_wr_s (by omega) (by omega), km (by omega) (by omega) (by omega), hr]
              rfl
            · rw [rd_wr (by omega) (by omega) (by omega)]
              by_cases e9 : (j : Int) = x
              · have e2 : j = i := by omega
                subst e2
                rw [if_pos e9, if_pos ⟨by omega, by omega, by omega⟩, km (by omega) (by omega) (by omega)]
              · rw [if_neg e9, hz j hj]
                by_cases e3 : j < i
                · have e4 : j < i + 1 := by omega
                  simp only [e3, e4, true_and]
                · have e4 : ¬ j < i + 1 := by omega
                  simp only [e3, e4, false_and]
  refine R_s (P := True) (f' := (0, [some (vR 74), some (vR 20), some (vI r0), none, none], [], LAY (u A 76 (A 76)) F, 0, 0)) hc31 0 (by rw [u_self]; rfl) trivial ?_
  refine R_s (P := True) (f' := (5, [some (vR 74), some (vR 20), some (vI r0), some (vI r0), some (vI 0)], [], LAY (u A 76 (A 76)) F, 0, 0)) hc31 4 rfl trivial ?_
  exact lp (e + 1) 0 _ _ _ rfl h76 rfl (fun j hj => by rw [if_neg (by omega)]) (by omega) (by omega)

