theorem l_test0 {A : Nat → List Int} {F : Nat → Int} {n : Nat} (hL : LENS A) (hn : (n : Int) = F 3) (hn30 : n ≤ 30) (hT : TR (A 3) n) {al : Nat → Int} (hal : ∀ p : Nat, p < n → rd (A 8) p = al p) (ha : ∀ p : Nat, p < n → al p = 0 ∨ al p = 1) {Q : Nat → List Int} {e : Nat} (hQ : QOK n Q e) (hF : F 8 = e) (q0 : A 21 = Q 0) (q1 : A 22 = Q 1) (q2 : A 23 = Q 2) (q3 : A 24 = Q 3) (q4 : A 25 = Q 4) (q5 : A 26 = Q 5) (q6 : A 27 = Q 6) (q7 : A 28 = Q 7) {x yr Y ac : Int} {i : Nat} (ex : x = i) (hi : i < e) : R 3 (0, L0 3 [vR 20, vI x, vI yr, vI Y, vI ac], [], LAY A F, 0, 0) (fun r G => r = some (vI (S_so yr Y ac Q i)) ∧ G = LAY A F) := by
  have d0 : (A 21).length = 6 := hL 21 (by decide)
  have d1 : (A 22).length = 6 := hL 22 (by decide)
  have d2 : (A 23).length = 6 := hL 23 (by decide)
  have d3 : (A 24).length = 6 := hL 24 (by decide)
  have d4 : (A 25).length = 6 := hL 25 (by decide)
  have d5 : (A 26).length = 6 := hL 26 (by decide)
  have d6 : (A 27).length = 6 := hL 27 (by decide)
  have d7 : (A 28).length = 6 := hL 28 (by decide)
  have he1 := hQ.1
  have he2 := hQ.2.1
  have k5 : rd (A 26) x = rd (Q 5) i := by rw [q5, ex]
  have k6 : rd (A 27) x = rd (Q 6) i := by rw [q6, ex]
  have k7 : rd (A 28) x = rd (Q 7) i := by rw [q7, ex]
  refine R_s (P := (0 ≤ x ∧ x < ((A 26).length : Int)) ∧ True) (f' := (6, [some (vR 20), some (vI x), some (vI yr), some (vI Y), some (vI ac), none], [vI (rd (A 26) x)], LAY A F, 0, 0)) hc3 4 rfl ⟨⟨by omega, by omega⟩, trivial⟩ ?_
  refine R_if (t := 11) hc3 rfl rfl (fun (c1 : ¬ rd (A 26) x = 0) => ?_) (fun (c1 : ¬ (¬ rd (A 26) x = 0)) => ?_)
  · refine R_s (P := (0 ≤ x ∧ x < ((A 26).length : Int)) ∧ True) (f' := (18, [some (vR 20), some (vI x), some (vI yr), some (vI Y), some (vI ac), none], [vI 1, vI (rd (A 26) x)], LAY A F, 0, 0)) hc3 5 rfl ⟨⟨by omega, by omega⟩, trivial⟩ ?_
    refine R_ic (t := 25) hc3 rfl rfl (fun (c2 : ¬ rd (A 26) x = 1) => ?_) (fun (c2 : ¬ (¬ rd (A 26) x = 1)) => ?_)
    · refine R_s (P := (0 ≤ x ∧ x < ((A 26).length : Int)) ∧ True) (f' := (32, [some (vR 20), some (vI x), some (vI yr), some (vI Y), some (vI ac), none], [vI 2, vI (rd (A 26) x)], LAY A F, 0, 0)) hc3 5 rfl ⟨⟨by omega, by omega⟩, trivial⟩ ?_
      refine R_ic (t := 39) hc3 rfl rfl (fun (c3 : ¬ rd (A 26) x = 2) => ?_) (fun (c3 : ¬ (¬ rd (A 26) x = 2)) => ?_)
      · refine R_s (P := (0 ≤ x ∧ x < ((A 27).length : Int)) ∧ True) (f' := (51, [some (vR 20), some (vI x), some (vI yr), some (vI Y), some (vI ac), some (vI ac)], [vI 61, vI (rd (A 27) x)], LAY A F, 0, 0)) hc3 7 rfl ⟨⟨by omega, by omega⟩, trivial⟩ ?_
        refine R_ic (t := 71) hc3 rfl rfl (fun (c4 : ¬ rd (A 27) x = 61) => ?_) (fun (c4 : ¬ (¬ rd (A 27) x = 61)) => ?_)
        · refine R_s (P := (0 ≤ x ∧ x < ((A 27).length : Int)) ∧ True) (f' := (79, [some (vR 20), some (vI x), some (vI yr), some (vI Y), some (vI ac), some (vI ac)], [vI 60, vI (rd (A 27) x)], LAY A F, 0, 0)) hc3 5 rfl ⟨⟨by omega, by omega⟩, trivial⟩ ?_
          refine R_ic (t := 101) hc3 rfl rfl (fun (c5 : ¬ rd (A 27) x = 60) => ?_) (fun (c5 : ¬ (¬ rd (A 27) x = 60)) => ?_)
          · refine R_s (P := (0 ≤ x ∧ x < ((A 28).length : Int)) ∧ True) (f' := (109, [some (vR 20), some (vI x), some (vI yr), some (vI Y), some (vI ac), some (vI ac)], [vI (rd (A 28) x), vI ac], LAY A F, 0, 0)) hc3 5 rfl ⟨⟨by omega, by omega⟩, trivial⟩ ?_
            refine R_ic (t := 116) hc3 rfl rfl (fun (c6 : ac ≤ rd (A 28) x) => ?_) (fun (c6 : ¬ (ac ≤ rd (A 28) x)) => ?_)
            · refine R_s (P := True) (f' := (117, [some (vR 20), some (vI x), some (vI yr), some (vI Y), some (vI ac), some (vI ac)], [vI 0], LAY A F, 0, 0)) hc3 1 rfl trivial ?_
              exact R_retz hc3 rfl rfl (Or.inl rfl) ⟨by rw [show S_so yr Y ac Q i = 0 by (unfold S_so; (repeat' split) <;> omega)], rfl⟩
            · refine R_s (P := True) (f' := (117, [some (vR 20), some (vI x), some (vI yr), some (vI Y), some (vI ac), some (vI ac)], [vI 1], LAY A F, 0, 0)) hc3 2 rfl trivial ?_
              exact R_retz hc3 rfl rfl (Or.inr rfl) ⟨by rw [show S_so yr Y ac Q i = 1 by (unfold S_so; (repeat' split) <;> omega)], rfl⟩
          · refine R_s (P := (0 ≤ x ∧ x < ((A 28).length : Int)) ∧ True) (f' := (90, [some (vR 20), some (vI x), some (vI yr), some (vI Y), some (vI ac), some (vI ac)], [vI (rd (A 28) x), vI ac], LAY A F, 0, 0)) hc3 5 rfl ⟨⟨by omega, by omega⟩, trivial⟩ ?_
            refine R_ic (t := 97) hc3 rfl rfl (fun (c7 : rd (A 28) x ≤ ac) => ?_) (fun (c7 : ¬ (rd (A 28) x ≤ ac)) => ?_)
            · refine R_s (P := True) (f' := (117, [some (vR 20), some (vI x), some (vI yr), some (vI Y), some (vI ac), some (vI ac)], [vI 0], LAY A F, 0, 0)) hc3 2 rfl trivial ?_
              exact R_retz hc3 rfl rfl (Or.inl rfl) ⟨by rw [show S_so yr Y ac Q i = 0 by (unfold S_so; (repeat' split) <;> omega)], rfl⟩
            · refine R_s (P := True) (f' := (117, [some (vR 20), some (vI x), some (vI yr), some (vI Y), some (vI ac), some (vI ac)], [vI 1], LAY A F, 0, 0)) hc3 2 rfl trivial ?_
              exact R_retz hc3 rfl rfl (Or.inr rfl) ⟨by rw [show S_so yr Y ac Q i = 1 by (unfold S_so; (repeat' split) <;> omega)], rfl⟩
        · refine R_s (P := (0 ≤ x ∧ x < ((A 28).length : Int)) ∧ True) (f' := (62, [some (vR 20), some (vI x), some (vI yr), some (vI Y), some (vI ac), some (vI ac)], [vI (rd (A 28) x), vI ac], LAY A F, 0, 0)) hc3 5 rfl ⟨⟨by omega, by omega⟩, trivial⟩ ?_
          refine R_ic (t := 69) hc3 rfl rfl (fun (c8 : ¬ ac = rd (A 28) x) => ?_) (fun (c8 : ¬ (¬ ac = rd (A 28) x)) => ?_)
          · refine R_s (P := True) (f' := (70, [some (vR 20), some (vI x), some (vI yr), some (vI Y), some (vI ac), some (vI ac)], [vI 0], LAY A F, 0, 0)) hc3 1 rfl trivial ?_
            exact R_retz hc3 rfl rfl (Or.inl rfl) ⟨by rw [show S_so yr Y ac Q i = 0 by (unfold S_so; (repeat' split) <;> omega)], rfl⟩
          · refine R_s (P := True) (f' := (70, [some (vR 20), some (vI x), some (vI yr), some (vI Y), some (vI ac), some (vI ac)], [vI 1], LAY A F, 0, 0)) hc3 2 rfl trivial ?_
            exact R_retz hc3 rfl rfl (Or.inr rfl) ⟨by rw [show S_so yr Y ac Q i = 1 by (unfold S_so; (repeat' split) <;> omega)], rfl⟩
      · refine R_s (P := (0 ≤ x ∧ x < ((A 27).length : Int)) ∧ True) (f' := (51, [some (vR 20), some (vI x), some (vI yr), some (vI Y), some (vI ac), some (vI Y)], [vI 61, vI (rd (A 27) x)], LAY A F, 0, 0)) hc3 8 rfl ⟨⟨by omega, by omega⟩, trivial⟩ ?_
        refine R_ic (t := 71) hc3 rfl rfl (fun (c9 : ¬ rd (A 27) x = 61) => ?_) (fun (c9 : ¬ (¬ rd (A 27) x = 61)) => ?_)
        · refine R_s (P := (0 ≤ x ∧ x < ((A 27).length : Int)) ∧ True) (f' := (79, [some (vR 20), some (vI x), some (vI yr), some (vI Y), some (vI ac), some (vI Y)], [vI 60, vI (rd (A 27) x)], LAY A F, 0, 0)) hc3 5 rfl ⟨⟨by omega, by omega⟩, trivial⟩ ?_
          refine R_ic (t := 101) hc3 rfl rfl (fun (c10 : ¬ rd (A 27) x = 60) => ?_) (fun (c10 : ¬ (¬ rd (A 27) x = 60)) => ?_)
          · refine R_s (P := (0 ≤ x ∧ x < ((A 28).length : Int)) ∧ True) (f' := (109, [some (vR 20), some (vI x), some (vI yr), some (vI Y), some (vI ac), some (vI Y)], [vI (rd (A 28) x), vI Y], LAY A F, 0, 0)) hc3 5 rfl ⟨⟨by omega, by omega⟩, trivial⟩ ?_
            refine R_ic (t := 116) hc3 rfl rfl (fun (c11 : Y ≤ rd (A 28) x) => ?_) (fun (c11 : ¬ (Y ≤ rd (A 28) x)) => ?_)
            · refine R_s (P := True) (f' := (117, [some (vR 20), some (vI x), some (vI yr), some (vI Y), some (vI ac), some (vI Y)], [vI 0], LAY A F, 0, 0)) hc3 1 rfl trivial ?_
              exact R_retz hc3 rfl rfl (Or.inl rfl) ⟨by rw [show S_so yr Y ac Q i = 0 by (unfold S_so; (repeat' split) <;> omega)], rfl⟩
            · refine R_s (P := True) (f' := (117, [some (vR 20), some (vI x), some (vI yr), some (vI Y), some (vI ac), some (vI Y)], [vI 1], LAY A F, 0, 0)) hc3 2 rfl trivial ?_
              exact R_retz hc3 rfl rfl (Or.inr rfl) ⟨by rw [show S_so yr Y ac Q i = 1 by (unfold S_so; (repeat' split) <;> omega)], rfl⟩
          · refine R_s (P := (0 ≤ x ∧ x < ((A 28).length : Int)) ∧ True) (f' := (90, [some (vR 20), some (vI x), some (vI yr), some (vI Y), some (vI ac), some (vI Y)], [vI (rd (A 28) x), vI Y], LAY A F, 0, 0)) hc3 5 rfl ⟨⟨by omega, by omega⟩, trivial⟩ ?_
            refine R_ic (t := 97) hc3 rfl rfl (fun (c12 : rd (A 28) x ≤ Y) => ?_) (fun (c12 : ¬ (rd (A 28) x ≤ Y)) => ?_)
            · refine R_s (P := True) (f' := (117, [some (vR 20), some (vI x), some (vI yr), some (vI Y), some (vI ac), some (vI Y)], [vI 0], LAY A F, 0, 0)) hc3 2 rfl trivial ?_
              exact R_retz hc3 rfl rfl (Or.inl rfl) ⟨by rw [show S_so yr Y ac Q i = 0 by (unfold S_so; (repeat' split) <;> omega)], rfl⟩
            · refine R_s (P := True) (f' := (117, [some (vR 20), some (vI x), some (vI yr), some (vI Y), some (vI ac), some (vI Y)], [vI 1], LAY A F, 0, 0)) hc3 2 rfl trivial ?_
              exact R_retz hc3 rfl rfl (Or.inr rfl) ⟨by rw [show S_so yr Y ac Q i = 1 by (unfold S_so; (repeat' split) <;> omega)], rfl⟩
        · refine R_s (P := (0 ≤ x ∧ x < ((A 28).length : Int)) ∧ True) (f' := (62, [some (vR 20), some (vI x), some (vI yr), some (vI Y), some (vI ac), some (vI Y)], [vI (rd (A 28) x), vI Y], LAY A F, 0, 0)) hc3 5 rfl ⟨⟨by omega, by omega⟩, trivial⟩ ?_
          refine R_ic (t := 69) hc3 rfl rfl (fun (c13 : ¬ Y = rd (A 28) x) => ?_) (fun (c13 : ¬ (¬ Y = rd (A 28) x)) => ?_)
          · refine R_s (P := True) (f' := (70, [some (vR 20), some (vI x), some (vI yr), some (vI Y), some (vI ac), some (vI Y)], [vI 0], LAY A F, 0, 0)) hc3 1 rfl trivial ?_
            exact R_retz hc3 rfl rfl (Or.inl rfl) ⟨by rw [show S_so yr Y ac Q i = 0 by (unfold S_so; (repeat' split) <;> omega)], rfl⟩
          · refine R_s (P := True) (f' := (70, [some (vR 20), some (vI x), some (vI yr), some (vI Y), some (vI ac), some (vI Y)], [vI 1], LAY A F, 0, 0)) hc3 2 rfl trivial ?_
            exact R_retz hc3 rfl rfl (Or.inr rfl) ⟨by rw [show S_so yr Y ac Q i = 1 by (unfold S_so; (repeat' split) <;> omega)], rfl⟩
    · refine R_s (P := (0 ≤ x ∧ x < ((A 27).length : Int)) ∧ True) (f' := (51, [some (vR 20), some (vI x), some (vI yr), some (vI Y), some (vI ac), some (vI yr)], [vI 61, vI (rd (A 27) x)], LAY A F, 0, 0)) hc3 8 rfl ⟨⟨by omega, by omega⟩, trivial⟩ ?_
      refine R_ic (t := 71) hc3 rfl rfl (fun (c14 : ¬ rd (A 27) x = 61) => ?_) (fun (c14 : ¬ (¬ rd (A 27) x = 61)) => ?_)
      · refine R_s (P := (0 ≤ x ∧ x < ((A 27).length : Int)) ∧ True) (f' := (79, [some (vR 20), some (vI x), some (vI yr), some (vI Y), some (vI ac), some (vI yr)], [vI 60, vI (rd (A 27) x)], LAY A F, 0, 0)) hc3 5 rfl ⟨⟨by omega, by omega⟩, trivial⟩ ?_
        refine R_ic (t := 101) hc3 rfl rfl (fun (c15 : ¬ rd (A 27) x = 60) => ?_) (fun (c15 : ¬ (¬ rd (A 27) x = 60)) => ?_)
        · refine R_s (P := (0 ≤ x ∧ x < ((A 28).length : Int)) ∧ True) (f' := (109, [some (vR 20), some (vI x), some (vI yr), some (vI Y), some (vI ac), some (vI yr)], [vI (rd (A 28) x), vI yr], LAY A F, 0, 0)) hc3 5 rfl ⟨⟨by omega, by omega⟩, trivial⟩ ?_
          refine R_ic (t := 116) hc3 rfl rfl (fun (c16 : yr ≤ rd (A 28) x) => ?_) (fun (c16 : ¬ (yr ≤ rd (A 28) x)) => ?_)
          · refine R_s (P := True) (f' := (117, [some (vR 20), some (vI x), some (vI yr), some (vI Y), some (vI ac), some (vI yr)], [vI 0], LAY A F, 0, 0)) hc3 1 rfl trivial ?_
            exact R_retz hc3 rfl rfl (Or.inl rfl) ⟨by rw [show S_so yr Y ac Q i = 0 by (unfold S_so; (repeat' split) <;> omega)], rfl⟩
          · refine R_s (P := True) (f' := (117, [some (vR 20), some (vI x), some (vI yr), some (vI Y), some (vI ac), some (vI yr)], [vI 1], LAY A F, 0, 0)) hc3 2 rfl trivial ?_
            exact R_retz hc3 rfl rfl (Or.inr rfl) ⟨by rw [show S_so yr Y ac Q i = 1 by (unfold S_so; (repeat' split) <;> omega)], rfl⟩
        · refine R_s (P := (0 ≤ x ∧ x < ((A 28).length : Int)) ∧ True) (f' := (90, [some (vR 20), some (vI x), some (vI yr), some (vI Y), some (vI ac), some (vI yr)], [vI (rd (A 28) x), vI yr], LAY A F, 0, 0)) hc3 5 rfl ⟨⟨by omega, by omega⟩, trivial⟩ ?_
          refine R_ic (t := 97) hc3 rfl rfl (fun (c17 : rd (A 28) x ≤ yr) => ?_) (fun (c17 : ¬ (rd (A 28) x ≤ yr)) => ?_)
          · refine R_s (P := True) (f' := (117, [some (vR 20), some (vI x), some (vI yr), some (vI Y), some (vI ac), some (vI yr)], [vI 0], LAY A F, 0, 0)) hc3 2 rfl trivial ?_
            exact R_retz hc3 rfl rfl (Or.inl rfl) ⟨by rw [show S_so yr Y ac Q i = 0 by (unfold S_so; (repeat' split) <;> omega)], rfl⟩
          · refine R_s (P := True) (f' := (117, [some (vR 20), some (vI x), some (vI yr), some (vI Y), some (vI ac), some (vI yr)], [vI 1], LAY A F, 0, 0)) hc3 2 rfl trivial ?_
            exact R_retz hc3 rfl rfl (Or.inr rfl) ⟨by rw [show S_so yr Y ac Q i = 1 by (unfold S_so; (repeat' split) <;> omega)], rfl⟩
      · refine R_s (P := (0 ≤ x ∧ x < ((A 28).length : Int)) ∧ True) (f' := (62, [some (vR 20), some (vI x), some (vI yr), some (vI Y), some (vI ac), some (vI yr)], [vI (rd (A 28) x), vI yr], LAY A F, 0, 0)) hc3 5 rfl ⟨⟨by omega, by omega⟩, trivial⟩ ?_
        refine R_ic (t := 69) hc3 rfl rfl (fun (c18 : ¬ yr = rd (A 28) x) => ?_) (fun (c18 : ¬ (¬ yr = rd (A 28) x)) => ?_)
        · refine R_s (P := True) (f' := (70, [some (vR 20), some (vI x), some (vI yr), some (vI Y), some (vI ac), some (vI yr)], [vI 0], LAY A F, 0, 0)) hc3 1 rfl trivial ?_
          exact R_retz hc3 rfl rfl (Or.inl rfl) ⟨by rw [show S_so yr Y ac Q i = 0 by (unfold S_so; (repeat' split) <;> omega)], rfl⟩
        · refine R_s (P := True) (f' := (70, [some (vR 20), some (vI x), some (vI yr), some (vI Y), some (vI ac), some (vI yr)], [vI 1], LAY A F, 0, 0)) hc3 2 rfl trivial ?_
          exact R_retz hc3 rfl rfl (Or.inr rfl) ⟨by rw [show S_so yr Y ac Q i = 1 by (unfold S_so; (repeat' split) <;> omega)], rfl⟩
  · refine R_s (P := True) (f' := (10, [some (vR 20), some (vI x), some (vI yr), some (vI Y), some (vI ac), none], [vI 1], LAY A F, 0, 0)) hc3 1 rfl trivial ?_
    exact R_retz hc3 rfl rfl (Or.inr rfl) ⟨by rw [show S_so yr Y ac Q i = 1 by (unfold S_so; (repeat' split) <;> omega)], rfl⟩
theorem l_judge0 {A : Nat → List Int} {F : Nat → Int} {n : Nat} (hL : LENS A) (hn : (n : Int) = F 3) (hn30 : n ≤ 30) (hT : TR (A 3) n) {al : Nat → Int} (hal : ∀ p : Nat, p < n → rd (A 8) p = al p) (ha : ∀ p : Nat, p < n → al p = 0 ∨ al p = 1) {Q : Nat → List Int} {e : Nat} (hQ : QOK n Q e) (hF : F 8 = e) (q0 : A 21 = Q 0) (q1 : A 22 = Q 1) (q2 : A 23 = Q 2) (q3 : A 24 = Q 3) (q4 : A 25 = Q 4) (q5 : A 26 = Q 5) (q6 : A 27 = Q 6) (q7 : A 28 = Q 7) {yr Y : Int} : R 29 (0, L0 29 [vR 74, vR 2, vR 20, vI Y, vI yr], [], LAY A F, 0, 0) (fun r G => r = none ∧ ∃ l11 l75, G = LAY (u (u A 11 l11) 75 l75) F ∧ l11.length = 30 ∧ l75.length = 6 ∧ ∀ i : Nat, i < e → rd l75 i = T_so n yr Y (A 3) al Q e i) := by
  have h11 : (A 11).length = 30 := hL 11 (by decide)
  have h75 : (A 75).length = 6 := hL 75 (by decide)
  have d0 : (A 21).length = 6 := hL 21 (by decide)
  have d1 : (A 22).length = 6 := hL 22 (by decide)
  have d2 : (A 23).length = 6 := hL 23 (by decide)
  have d3 : (A 24).length = 6 := hL 24 (by decide)
  have d4 : (A 25).length = 6 := hL 25 (by decide)
  have d5 : (A 26).length = 6 := hL 26 (by decide)
  have d6 : (A 27).length = 6 := hL 27 (by decide)
  have d7 : (A 28).length = 6 := hL 28 (by decide)
  have he1 := hQ.1
  have he2 := hQ.2.1
  refine R_s (P := True) (f' := (1, [some (vR 74), some (vR 2), some (vR 20), some (vI Y), some (vI yr), none, none], [vR 2], LAY A F, 0, 0)) hc29 1 rfl trivial ?_
  refine R_cv hc29 rfl rfl (l_clearLine hL hn hn30) (fun r G9 hp9 => ?_)
  obtain ⟨rfl, l11, rfl, hl11, hc11⟩ := hp9
  refine R_s (f' := (4, [some (vR 74), some (vR 2), some (vR 20), some (vI Y), some (vI yr), none, none], [], LAY (u A 11 l11) F, 0, 0)) hc29 0 rfl trivial ?_
  refine R_s (P := True) (f' := (7, [some (vR 74), some (vR 2), some (vR 20), some (vI Y), some (vI yr), some (vI 0), none], [], LAY (u A 11 l11) F, 0, 0)) hc29 2 rfl trivial ?_
  have lp : ∀ (mm i : Nat) (x : Int) (m : List Int), x = (i : Int) → m.length = 30 → (∀ p : Nat, p < n → rd m p = S_un (A 3) Q i p) → i ≤ e → e + 1 ≤ i + mm → R 29 (7, [some (vR 74), some (vR 2), some (vR 20), some (vI Y), some (vI yr), some (vI x), none], [], LAY (u A 11 m) F, 0, 0) (fun r G => r = none ∧ ∃ l11 l75, G = LAY (u (u A 11 l11) 75 l75) F ∧ l11.length = 30 ∧ l75.length = 6 ∧ ∀ i : Nat, i < e → rd l75 i = T_so n yr Y (A 3) al Q e i) := by
    intro mm
    induction mm with
    | zero =>
      intro i x m ex hm1 hz hi hm
      exact absurd hm (by omega)
    | succ mm ih =>
      intro i x m ex hm1 hz hi hm
      have k0 : rd (A 21) x = rd (Q 0) i := by rw [q0, ex]
      have k2 : rd (A 23) x = rd (Q 2) i := by rw [q2, ex]
      have hk := hQ.2.2.2 i
      refine R_s (P := True) (f' := (13, [some (vR 74), some (vR 2), some (vR 20), some (vI Y), some (vI yr), some (vI x), none], [vI (F 8), vI x], LAY (u A 11 m) F, 0, 0)) hc29 3 rfl trivial ?_
      refine R_ic (t := 44) hc29 rfl rfl (fun (c1 : F 8 ≤ x) => ?_) (fun (c1 : ¬ (F 8 ≤ x)) => ?_)
      · refine R_s (P := True) (f' := (45, [some (vR 74), some (vR 2), some (vR 20), some (vI Y), some (vI yr), some (vI x), none], [vR 2], LAY (u A 11 m) F, 0, 0)) hc29 1 rfl trivial ?_
        refine R_cv hc29 rfl rfl (l_aliveMarked (A := u A 11 m) (mk := S_un (A 3) Q i) (LENS_u hL (by rw [hm1, h11])) hn hn30 hal ha hz (fun p _ => S_un_01 i p)) (fun r G9 hp9 => ?_)
        obtain ⟨rfl, rfl⟩ := hp9
        have ei : i = e := by omega
        subst ei
        refine R_s (f' := (48, [some (vR 74), some (vR 2), some (vR 20), some (vI Y), some (vI yr), some (vI x), none], [vI (S_ac n (A 3) al Q i)], LAY (u A 11 m) F, 0, 0)) hc29 0 rfl trivial ?_
        refine R_s (P := True) (f' := (53, [some (vR 74), some (vR 2), some (vR 20), some (vI Y), some (vI yr), some (vI (S_ac n (A 3) al Q i)), some (vI 0)], [], LAY (u A 11 m) F, 0, 0)) hc29 3 rfl trivial ?_
        have lp2 : ∀ (mj j : Nat) (y : Int) (l : List Int), y = (j : Int) → l.length = 6 → (∀ p : Nat, p < j → rd l p = T_so n yr Y (A 3) al Q i p) → j ≤ i → i + 1 ≤ j + mj → R 29 (53, [some (vR 74), some (vR 2), some (vR 20), some (vI Y), some (vI yr), some (vI (S_ac n (A 3) al Q i)), some (vI y)], [], LAY (u (u A 11 m) 75 l) F, 0, 0) (fun r G => r = none ∧ ∃ l11 l75, G = LAY (u (u A 11 l11) 75 l75) F ∧ l11.length = 30 ∧ l75.length = 6 ∧ ∀ q : Nat, q < i → rd l75 q = T_so n yr Y (A 3) al Q i q) := by
          intro mj
          induction mj with
          | zero =>
            intro j y l ey hl hz2 hj hmj
            exact absurd hmj (by omega)
          | succ mj ihj =>
            intro j y l ey hl hz2 hj hmj
            refine R_s (P := True) (f' := (59, [some (vR 74), some (vR 2), some (vR 20), some (vI Y), some (vI yr), some (vI (S_ac n (A 3) al Q i)), some (vI y)], [vI (F 8), vI y], LAY (u (u A 11 m) 75 l) F, 0, 0)) hc29 3 rfl trivial ?_
            refine R_ic (t := 86) hc29 rfl rfl (fun (c1 : F 8 ≤ y) => ?_) (fun (c1 : ¬ (F 8 ≤ y)) => ?_)
            · exact R_retv hc29 rfl rfl ⟨rfl, m, l, rfl, hm1, hl, fun p hp => hz2 p (by omega)⟩
            · refine R_s (P := True) (f' := (76, [some (vR 74), some (vR 2), some (vR 20), some (vI Y), some (vI yr), some (vI (S_ac n (A 3) al Q i)), some (vI y)], [vI (S_ac n (A 3) al Q i), vI Y, vI yr, vI y, vR 20, vI y, vR 75], LAY (u (u A 11 m) 75 l) F, 0, 0)) hc29 8 rfl trivial ?_
              refine R_cv hc29 rfl rfl (l_test0 (A := (u (u A 11 m) 75 l)) (LENS_u (LENS_u hL (by rw [hm1, h11])) (by show l.length = (A 75).length; rw [hl, h75])) hn hn30 hT hal ha hQ hF q0 q1 q2 q3 q4 q5 q6 q7 (i := j) ey (by omega)) (fun r G9 hp9 => ?_)
              obtain ⟨rfl, rfl⟩ := hp9
              refine R_s (f' := (79, [some (vR 74), some (vR 2), some (vR 20), some (vI Y), some (vI yr), some (vI (S_ac n (A 3) al Q i)), some (vI y)], [vI (S_so yr Y (S_ac n (A 3) al Q i) Q j), vI y, vR 75], LAY (u (u A 11 m) 75 l) F, 0, 0)) hc29 0 rfl trivial ?_
              refine R_s (P := ((0 ≤ y ∧ y < ((l).length : Int)) ∧ (S_so yr Y (S_ac n (A 3) al Q i) Q j = 0 ∨ S_so yr Y (S_ac n (A 3) al Q i) Q j = 1)) ∧ inI (y + 1) ∧ True) (f' := (53, [some (vR 74), some (vR 2), some (vR 20), some (vI Y), some (vI yr), some (vI (S_ac n (A 3) al Q i)), some (vI (y + 1))], [], LAY (u (u A 11 m) 75 (wr l y (S_so yr Y (S_ac n (A 3) al Q i) Q j))) F, 0, 0)) hc29 3 rfl ⟨⟨⟨by omega, by omega⟩, S_so_01 _⟩, ⟨by omega, by omega⟩, trivial⟩ ?_
              refine ihj (j + 1) _ _ (by omega) (by rw [wr_len]; exact hl) (fun p hp => ?_) (by omega) (by omega)
              rw [rd_wr (by omega) (by omega) (by omega)]
              by_cases e9 : (p : Int) = y
              · rw [if_pos e9, show p = j by omega]
                rfl
              · rw [if_neg e9]
                exact hz2 p (by omega)
        refine R_s (P := True) (f' := (53, [some (vR 74), some (vR 2), some (vR 20), some (vI Y), some (vI yr), some (vI (S_ac n (A 3) al Q i)), some (vI 0)], [], LAY (u (u A 11 m) 75 (A 75)) F, 0, 0)) hc29 0 rfl trivial ?_
        exact lp2 (i + 1) 0 _ _ rfl h75 (fun p hp => absurd hp (by omega)) (by omega) (by omega)
      · refine R_s (P := (0 ≤ x ∧ x < ((A 21).length : Int)) ∧ True) (f' := (24, [some (vR 74), some (vR 2), some (vR 20), some (vI Y), some (vI yr), some (vI x), none], [vI 1, vI (rd (A 21) x)], LAY (u A 11 m) F, 0, 0)) hc29 5 rfl ⟨⟨by omega, by omega⟩, trivial⟩ ?_
        refine R_ic (t := 38) hc29 rfl rfl (fun (c2 : ¬ rd (A 21) x = 1) => ?_) (fun (c2 : ¬ (¬ rd (A 21) x = 1)) => ?_)
        · refine R_s (P := inI (x + 1) ∧ True) (f' := (7, [some (vR 74), some (vR 2), some (vR 20), some (vI Y), some (vI yr), some (vI (x + 1)), none], [], LAY (u A 11 m) F, 0, 0)) hc29 2 rfl ⟨⟨by omega, by omega⟩, trivial⟩ ?_
          refine ih (i + 1) _ _ (by omega) hm1 (fun p hp => ?_) (by omega) (by omega)
          rw [hz p hp]
          simp only [S_un]
          rw [if_neg (fun q => by omega)]
        · refine R_s (P := (0 ≤ x ∧ x < ((A 23).length : Int)) ∧ True) (f' := (35, [some (vR 74), some (vR 2), some (vR 20), some (vI Y), some (vI yr), some (vI x), none], [vI (rd (A 23) x), vR 2], LAY (u A 11 m) F, 0, 0)) hc29 5 rfl ⟨⟨by omega, by omega⟩, trivial⟩ ?_
          refine R_cv hc29 rfl rfl (l_addLine (A := u A 11 m) (mk := S_un (A 3) Q i) (LENS_u hL (by rw [hm1, h11])) hn hn30 hT (ro := (rd (Q 2) i).toNat) (by have := hk (by omega); omega) (by have := hk (by omega); omega) hz (fun p _ => S_un_01 i p) (fun p hp h0 h1 => S_un_cl hT i (fun j hj hj2 => by have := (hQ.2.2.2 j (by omega)).2.2.2.2.1 (.inl hj2); exact this) p hp h0 h1)) (fun r G9 hp9 => ?_)
          obtain ⟨rfl, m2, e11, hm2, hc12⟩ := hp9
          subst e11
          have hc13 : ∀ p : Nat, p < n → rd m2 p = if rq (A 3) 0 (rd (Q 2) i).toNat p = 1 then 1 else S_un (A 3) Q i p := hc12
          refine R_s (f' := (38, [some (vR 74), some (vR 2), some (vR 20), some (vI Y), some (vI yr), some (vI x), none], [], LAY (u A 11 m2) F, 0, 0)) hc29 0 rfl trivial ?_
          refine R_s (P := inI (x + 1) ∧ True) (f' := (7, [some (vR 74), some (vR 2), some (vR 20), some (vI Y), some (vI yr), some (vI (x + 1)), none], [], LAY (u A 11 m2) F, 0, 0)) hc29 2 rfl ⟨⟨by omega, by omega⟩, trivial⟩ ?_
          refine ih (i + 1) _ _ (by omega) hm2 (fun p hp => ?_) (by omega) (by omega)
          rw [hc13 p hp]
          simp only [S_un]
          by_cases e9 : rq (A 3) 0 (rd (Q 2) i).toNat p = 1
          · rw [if_pos e9, if_pos ⟨by omega, e9⟩]
          · rw [if_neg e9, if_neg (fun q => e9 q.2)]
  exact lp (e + 1) 0 _ _ rfl hl11 hc11 (by omega) (by omega)
theorem l_test1 {A : Nat → List Int} {F : Nat → Int} {n : Nat} (hL : LENS A) (hn : (n : Int) = F 3) (hn30 : n ≤ 30) (hT : TR (A 3) n) {al : Nat → Int} (hal : ∀ p : Nat, p < n → rd (A 8) p = al p) (ha : ∀ p : Nat, p < n → al p = 0 ∨ al p = 1) {Q : Nat → List Int} {e : Nat} (hQ : QOK n Q e) (hF : F 9 = e) (q0 : A 30 = Q 0) (q1 : A 31 = Q 1) (q2 : A 32 = Q 2) (q3 : A 33 = Q 3) (q4 : A 34 = Q 4) (q5 : A 35 = Q 5) (q6 : A 36 = Q 6) (q7 : A 37 = Q 7) {x yr Y ac : Int} {i : Nat} (ex : x = i) (hi : i < e) : R 3 (0, L0 3 [vR 29, vI x, vI yr, vI Y, vI ac], [], LAY A F, 0, 0) (fun r G => r = some (vI (S_so yr Y ac Q i)) ∧ G = LAY A F) := by
  have d0 : (A 30).length = 6 := hL 30 (by decide)
  have d1 : (A 31).length = 6 := hL 31 (by decide)
  have d2 : (A 32).length = 6 := hL 32 (by decide)
  have d3 : (A 33).length = 6 := hL 33 (by decide)
  have d4 : (A 34).length = 6 := hL 34 (by decide)
  have d5 : (A 35).length = 6 := hL 35 (by decide)
  have d6 : (A 36).length = 6 := hL 36 (by decide)
  have d7 : (A 37).length = 6 := hL 37 (by decide)
  have he1 := hQ.1
  have he2 := hQ.2.1
  have k5 : rd (A 35) x = rd (Q 5) i := by rw [q5, ex]
  have k6 : rd (A 36) x = rd (Q 6) i := by rw [q6, ex]
  have k7 : rd (A 37) x = rd (Q 7) i := by rw [q7, ex]
  refine R_s (P := (0 ≤ x ∧ x < ((A 35).length : Int)) ∧ True) (f' := (6, [some (vR 29), some (vI x), some (vI yr), some (vI Y), some (vI ac), none], [vI (rd (A 35) x)], LAY A F, 0, 0)) hc3 4 rfl ⟨⟨by omega, by omega⟩, trivial⟩ ?_
  refine R_if (t := 11) hc3 rfl rfl (fun (c1 : ¬ rd (A 35) x = 0) => ?_) (fun (c1 : ¬ (¬ rd (A 35) x = 0)) => ?_)
  · refine R_s (P := (0 ≤ x ∧ x < ((A 35).length : Int)) ∧ True) (f' := (18, [some (vR 29), some (vI x), some (vI yr), some (vI Y), some (vI ac), none], [vI 1, vI (rd (A 35) x)], LAY A F, 0, 0)) hc3 5 rfl ⟨⟨by omega, by omega⟩, trivial⟩ ?_
    refine R_ic (t := 25) hc3 rfl rfl (fun (c2 : ¬ rd (A 35) x = 1) => ?_) (fun (c2 : ¬ (¬ rd (A 35) x = 1)) => ?_)
    · refine R_s (P := (0 ≤ x ∧ x < ((A 35).length : Int)) ∧ True) (f' := (32, [some (vR 29), some (vI x), some (vI yr), some (vI Y), some (vI ac), none], [vI 2, vI (rd (A 35) x)], LAY A F, 0, 0)) hc3 5 rfl ⟨⟨by omega, by omega⟩, trivial⟩ ?_
      refine R_ic (t := 39) hc3 rfl rfl (fun (c3 : ¬ rd (A 35) x = 2) => ?_) (fun (c3 : ¬ (¬ rd (A 35) x = 2)) => ?_)
      · refine R_s (P := (0 ≤ x ∧ x < ((A 36).length : Int)) ∧ True) (f' := (51, [some (vR 29), some (vI x), some (vI yr), some (vI Y), some (vI ac), some (vI ac)], [vI 61, vI (rd (A 36) x)], LAY A F, 0, 0)) hc3 7 rfl ⟨⟨by omega, by omega⟩, trivial⟩ ?_
        refine R_ic (t := 71) hc3 rfl rfl (fun (c4 : ¬ rd (A 36) x = 61) => ?_) (fun (c4 : ¬ (¬ rd (A 36) x = 61)) => ?_)
        · refine R_s (P := (0 ≤ x ∧ x < ((A 36).length : Int)) ∧ True) (f' := (79, [some (vR 29), some (vI x), some (vI yr), some (vI Y), some (vI ac), some (vI ac)], [vI 60, vI (rd (A 36) x)], LAY A F, 0, 0)) hc3 5 rfl ⟨⟨by omega, by omega⟩, trivial⟩ ?_
          refine R_ic (t := 101) hc3 rfl rfl (fun (c5 : ¬ rd (A 36) x = 60) => ?_) (fun (c5 : ¬ (¬ rd (A 36) x = 60)) => ?_)
          · refine R_s (P := (0 ≤ x ∧ x < ((A 37).length : Int)) ∧ True) (f' := (109, [some (vR 29), some (vI x), some (vI yr), some (vI Y), some (vI ac), some (vI ac)], [vI (rd (A 37) x), vI ac], LAY A F, 0, 0)) hc3 5 rfl ⟨⟨by omega, by omega⟩, trivial⟩ ?_
            refine R_ic (t := 116) hc3 rfl rfl (fun (c6 : ac ≤ rd (A 37) x) => ?_) (fun (c6 : ¬ (ac ≤ rd (A 37) x)) => ?_)
            · refine R_s (P := True) (f' := (117, [some (vR 29), some (vI x), some (vI yr), some (vI Y), some (vI ac), some (vI ac)], [vI 0], LAY A F, 0, 0)) hc3 1 rfl trivial ?_
              exact R_retz hc3 rfl rfl (Or.inl rfl) ⟨by rw [show S_so yr Y ac Q i = 0 by (unfold S_so; (repeat' split) <;> omega)], rfl⟩
            · refine R_s (P := True) (f' := (117, [some (vR 29), some (vI x), some (vI yr), some (vI Y), some (vI ac), some (vI ac)], [vI 1], LAY A F, 0, 0)) hc3 2 rfl trivial ?_
              exact R_retz hc3 rfl rfl (Or.inr rfl) ⟨by rw [show S_so yr Y ac Q i = 1 by (unfold S_so; (repeat' split) <;> omega)], rfl⟩
          · refine R_s (P := (0 ≤ x ∧ x < ((A 37).length : Int)) ∧ True) (f' := (90, [some (vR 29), some (vI x), some (vI yr), some (vI Y), some (vI ac), some (vI ac)], [vI (rd (A 37) x), vI ac], LAY A F, 0, 0)) hc3 5 rfl ⟨⟨by omega, by omega⟩, trivial⟩ ?_
            refine R_ic (t := 97) hc3 rfl rfl (fun (c7 : rd (A 37) x ≤ ac) => ?_) (fun (c7 : ¬ (rd (A 37) x ≤ ac)) => ?_)
            · refine R_s (P := True) (f' := (117, [some (vR 29), some (vI x), some (vI yr), some (vI Y), some (vI ac), some (vI ac)], [vI 0], LAY A F, 0, 0)) hc3 2 rfl trivial ?_
              exact R_retz hc3 rfl rfl (Or.inl rfl) ⟨by rw [show S_so yr Y ac Q i = 0 by (unfold S_so; (repeat' split) <;> omega)], rfl⟩
            · refine R_s (P := True) (f' := (117, [some (vR 29), some (vI x), some (vI yr), some (vI Y), some (vI ac), some (vI ac)], [vI 1], LAY A F, 0, 0)) hc3 2 rfl trivial ?_
              exact R_retz hc3 rfl rfl (Or.inr rfl) ⟨by rw [show S_so yr Y ac Q i = 1 by (unfold S_so; (repeat' split) <;> omega)], rfl⟩
        · refine R_s (P := (0 ≤ x ∧ x < ((A 37).length : Int)) ∧ True) (f' := (62, [some (vR 29), some (vI x), some (vI yr), some (vI Y), some (vI ac), some (vI ac)], [vI (rd (A 37) x), vI ac], LAY A F, 0, 0)) hc3 5 rfl ⟨⟨by omega, by omega⟩, trivial⟩ ?_
          refine R_ic (t := 69) hc3 rfl rfl (fun (c8 : ¬ ac = rd (A 37) x) => ?_) (fun (c8 : ¬ (¬ ac = rd (A 37) x)) => ?_)
          · refine R_s (P := True) (f' := (70, [some (vR 29), some (vI x), some (vI yr), some (vI Y), some (vI ac), some (vI ac)], [vI 0], LAY A F, 0, 0)) hc3 1 rfl trivial ?_
            exact R_retz hc3 rfl rfl (Or.inl rfl) ⟨by rw [show S_so yr Y ac Q i = 0 by (unfold S_so; (repeat' split) <;> omega)], rfl⟩
          · refine R_s (P := True) (f' := (70, [some (vR 29), some (vI x), some (vI yr), some (vI Y), some (vI ac), some (vI ac)], [vI 1], LAY A F, 0, 0)) hc3 2 rfl trivial ?_
            exact R_retz hc3 rfl rfl (Or.inr rfl) ⟨by rw [show S_so yr Y ac Q i = 1 by (unfold S_so; (repeat' split) <;> omega)], rfl⟩
      · refine R_s (P := (0 ≤ x ∧ x < ((A 36).length : Int)) ∧ True) (f' := (51, [some (vR 29), some (vI x), some (vI yr), some (vI Y), some (vI ac), some (vI Y)], [vI 61, vI (rd (A 36) x)], LAY A F, 0, 0)) hc3 8 rfl ⟨⟨by omega, by omega⟩, trivial⟩ ?_
        refine R_ic (t := 71) hc3 rfl rfl (fun (c9 : ¬ rd (A 36) x = 61) => ?_) (fun (c9 : ¬ (¬ rd (A 36) x = 61)) => ?_)
        · refine R_s (P := (0 ≤ x ∧ x < ((A 36).length : Int)) ∧ True) (f' := (79, [some (vR 29), some (vI x), some (vI yr), some (vI Y), some (vI ac), some (vI Y)], [vI 60, vI (rd (A 36) x)], LAY A F, 0, 0)) hc3 5 rfl ⟨⟨by omega, by omega⟩, trivial⟩ ?_
          refine R_ic (t := 101) hc3 rfl rfl (fun (c10 : ¬ rd (A 36) x = 60) => ?_) (fun (c10 : ¬ (¬ rd (A 36) x = 60)) => ?_)
          · refine R_s (P := (0 ≤ x ∧ x < ((A 37).length : Int)) ∧ True) (f' := (109, [some (vR 29), some (vI x), some (vI yr), some (vI Y), some (vI ac), some (vI Y)], [vI (rd (A 37) x), vI Y], LAY A F, 0, 0)) hc3 5 rfl ⟨⟨by omega, by omega⟩, trivial⟩ ?_
            refine R_ic (t := 116) hc3 rfl rfl (fun (c11 : Y ≤ rd (A 37) x) => ?_) (fun (c11 : ¬ (Y ≤ rd (A 37) x)) => ?_)
            · refine R_s (P := True) (f' := (117, [some (vR 29), some (vI x), some (vI yr), some (vI Y), some (vI ac), some (vI Y)], [vI 0], LAY A F, 0, 0)) hc3 1 rfl trivial ?_
              exact R_retz hc3 rfl rfl (Or.inl rfl) ⟨by rw [show S_so yr Y ac Q i = 0 by (unfold S_so; (repeat' split) <;> omega)], rfl⟩
            · refine R_s (P := True) (f' := (117, [some (vR 29), some (vI x), some (vI yr), some (vI Y), some (vI ac), some (vI Y)], [vI 1], LAY A F, 0, 0)) hc3 2 rfl trivial ?_
              exact R_retz hc3 rfl rfl (Or.inr rfl) ⟨by rw [show S_so yr Y ac Q i = 1 by (unfold S_so; (repeat' split) <;> omega)], rfl⟩
          · refine R_s (P := (0 ≤ x ∧ x < ((A 37).length : Int)) ∧ True) (f' := (90, [some (vR 29), some (vI x), some (vI yr), some (vI Y), some (vI ac), some (vI Y)], [vI (rd (A 37) x), vI Y], LAY A F, 0, 0)) hc3 5 rfl ⟨⟨by omega, by omega⟩, trivial⟩ ?_
            refine R_ic (t := 97) hc3 rfl rfl (fun (c12 : rd (A 37) x ≤ Y) => ?_) (fun (c12 : ¬ (rd (A 37) x ≤ Y)) => ?_)
            · refine R_s (P := True) (f' := (117, [some (vR 29), some (vI x), some (vI yr), some (vI Y), some (vI ac), some (vI Y)], [vI 0], LAY A F, 0, 0)) hc3 2 rfl trivial ?_
              exact R_retz hc3 rfl rfl (Or.inl rfl) ⟨by rw [show S_so yr Y ac Q i = 0 by (unfold S_so; (repeat' split) <;> omega)], rfl⟩
            · refine R_s (P := True) (f' := (117, [some (vR 29), some (vI x), some (vI yr), some (vI Y), some (vI ac), some (vI Y)], [vI 1], LAY A F, 0, 0)) hc3 2 rfl trivial ?_
              exact R_retz hc3 rfl rfl (Or.inr rfl) ⟨by rw [show S_so yr Y ac Q i = 1 by (unfold S_so; (repeat' split) <;> omega)], rfl⟩
        · refine R_s (P := (0 ≤ x ∧ x < ((A 37).length : Int)) ∧ True) (f' := (62, [some (vR 29), some (vI x), some (vI yr), some (vI Y), some (vI ac), some (vI Y)], [vI (rd (A 37) x), vI Y], LAY A F, 0, 0)) hc3 5 rfl ⟨⟨by omega, by omega⟩, trivial⟩ ?_
          refine R_ic (t := 69) hc3 rfl rfl (fun (c13 : ¬ Y = rd (A 37) x) => ?_) (fun (c13 : ¬ (¬ Y = rd (A 37) x)) => ?_)
          · refine R_s (P := True) (f' := (70, [some (vR 29), some (vI x), some (vI yr), some (vI Y), some (vI ac), some (vI Y)], [vI 0], LAY A F, 0, 0)) hc3 1 rfl trivial ?_
            exact R_retz hc3 rfl rfl (Or.inl rfl) ⟨by rw [show S_so yr Y ac Q i = 0 by (unfold S_so; (repeat' split) <;> omega)], rfl⟩
          · refine R_s (P := True) (f' := (70, [some (vR 29), some (vI x), some (vI yr), some (vI Y), some (vI ac), some (vI Y)], [vI 1], LAY A F, 0, 0)) hc3 2 rfl trivial ?_
            exact R_retz hc3 rfl rfl (Or.inr rfl) ⟨by rw [show S_so yr Y ac Q i = 1 by (unfold S_so; (repeat' split) <;> omega)], rfl⟩
    · refine R_s (P := (0 ≤ x ∧ x < ((A 36).length : Int)) ∧ True) (f' := (51, [some (vR 29), some (vI x), some (vI yr), some (vI Y), some (vI ac), some (vI yr)], [vI 61, vI (rd (A 36) x)], LAY A F, 0, 0)) hc3 8 rfl ⟨⟨by omega, by omega⟩, trivial⟩ ?_
      refine R_ic (t := 71) hc3 rfl rfl (fun (c14 : ¬ rd (A 36) x = 61) => ?_) (fun (c14 : ¬ (¬ rd (A 36) x = 61)) => ?_)
      · refine R_s (P := (0 ≤ x ∧ x < ((A 36).length : Int)) ∧ True) (f' := (79, [some (vR 29), some (vI x), some (vI yr), some (vI Y), some (vI ac), some (vI yr)], [vI 60, vI (rd (A 36) x)], LAY A F, 0, 0)) hc3 5 rfl ⟨⟨by omega, by omega⟩, trivial⟩ ?_
        refine R_ic (t := 101) hc3 rfl rfl (fun (c15 : ¬ rd (A 36) x = 60) => ?_) (fun (c15 : ¬ (¬ rd (A 36) x = 60)) => ?_)
        · refine R_s (P := (0 ≤ x ∧ x < ((A 37).length : Int)) ∧ True) (f' := (109, [some (vR 29), some (vI x), some (vI yr), some (vI Y), some (vI ac), some (vI yr)], [vI (rd (A 37) x), vI yr], LAY A F, 0, 0)) hc3 5 rfl ⟨⟨by omega, by omega⟩, trivial⟩ ?_
          refine R_ic (t := 116) hc3 rfl rfl (fun (c16 : yr ≤ rd (A 37) x) => ?_) (fun (c16 : ¬ (yr ≤ rd (A 37) x)) => ?_)
          · refine R_s (P := True) (f' := (117, [some (vR 29), some (vI x), some (vI yr), some (vI Y), some (vI ac), some (vI yr)], [vI 0], LAY A F, 0, 0)) hc3 1 rfl trivial ?_
            exact R_retz hc3 rfl rfl (Or.inl rfl) ⟨by rw [show S_so yr Y ac Q i = 0 by (unfold S_so; (repeat' split) <;> omega)], rfl⟩
          · refine R_s (P := True) (f' := (117, [some (vR 29), some (vI x), some (vI yr), some (vI Y), some (vI ac), some (vI yr)], [vI 1], LAY A F, 0, 0)) hc3 2 rfl trivial ?_
            exact R_retz hc3 rfl rfl (Or.inr rfl) ⟨by rw [show S_so yr Y ac Q i = 1 by (unfold S_so; (repeat' split) <;> omega)], rfl⟩
        · refine R_s (P := (0 ≤ x ∧ x < ((A 37).length : Int)) ∧ True) (f' := (90, [some (vR 29), some (vI x), some (vI yr), some (vI Y), some (vI ac), some (vI yr)], [vI (rd (A 37) x), vI yr], LAY A F, 0, 0)) hc3 5 rfl ⟨⟨by omega, by omega⟩, trivial⟩ ?_
          refine R_ic (t := 97) hc3 rfl rfl (fun (c17 : rd (A 37) x ≤ yr) => ?_) (fun (c17 : ¬ (rd (A 37) x ≤ yr)) => ?_)
          · refine R_s (P := True) (f' := (117, [some (vR 29), some (vI x), some (vI yr), some (vI Y), some (vI ac), some (vI yr)], [vI 0], LAY A F, 0, 0)) hc3 2 rfl trivial ?_
            exact R_retz hc3 rfl rfl (Or.inl rfl) ⟨by rw [show S_so yr Y ac Q i = 0 by (unfold S_so; (repeat' split) <;> omega)], rfl⟩
          · refine R_s (P := True) (f' := (117, [some (vR 29), some (vI x), some (vI yr), some (vI Y), some (vI ac), some (vI yr)], [vI 1], LAY A F, 0, 0)) hc3 2 rfl trivial ?_
            exact R_retz hc3 rfl rfl (Or.inr rfl) ⟨by rw [show S_so yr Y ac Q i = 1 by (unfold S_so; (repeat' split) <;> omega)], rfl⟩
      · refine R_s (P := (0 ≤ x ∧ x < ((A 37).length : Int)) ∧ True) (f' := (62, [some (vR 29), some (vI x), some (vI yr), some (vI Y), some (vI ac), some (vI yr)], [vI (rd (A 37) x), vI yr], LAY A F, 0, 0)) hc3 5 rfl ⟨⟨by omega, by omega⟩, trivial⟩ ?_
        refine R_ic (t := 69) hc3 rfl rfl (fun (c18 : ¬ yr = rd (A 37) x) => ?_) (fun (c18 : ¬ (¬ yr = rd (A 37) x)) => ?_)
        · refine R_s (P := True) (f' := (70, [some (vR 29), some (vI x), some (vI yr), some (vI Y), some (vI ac), some (vI yr)], [vI 0], LAY A F, 0, 0)) hc3 1 rfl trivial ?_
          exact R_retz hc3 rfl rfl (Or.inl rfl) ⟨by rw [show S_so yr Y ac Q i = 0 by (unfold S_so; (repeat' split) <;> omega)], rfl⟩
        · refine R_s (P := True) (f' := (70, [some (vR 29), some (vI x), some (vI yr), some (vI Y), some (vI ac), some (vI yr)], [vI 1], LAY A F, 0, 0)) hc3 2 rfl trivial ?_
          exact R_retz hc3 rfl rfl (Or.inr rfl) ⟨by rw [show S_so yr Y ac Q i = 1 by (unfold S_so; (repeat' split) <;> omega)], rfl⟩
  · refine R_s (P := True) (f' := (10, [some (vR 29), some (vI x), some (vI yr), some (vI Y), some (vI ac), none], [vI 1], LAY A F, 0, 0)) hc3 1 rfl trivial ?_
    exact R_retz hc3 rfl rfl (Or.inr rfl) ⟨by rw [show S_so yr Y ac Q i = 1 by (unfold S_so; (repeat' split) <;> omega)], rfl⟩
theorem l_judge1 {A : Nat → List Int} {F : Nat → Int} {n : Nat} (hL : LENS A) (hn : (n : Int) = F 3) (hn30 : n ≤ 30) (hT : TR (A 3) n) {al : Nat → Int} (hal : ∀ p : Nat, p < n → rd (A 8) p = al p) (ha : ∀ p : Nat, p < n → al p = 0 ∨ al p = 1) {Q : Nat → List Int} {e : Nat} (hQ : QOK n Q e) (hF : F 9 = e) (q0 : A 30 = Q 0) (q1 : A 31 = Q 1) (q2 : A 32 = Q 2) (q3 : A 33 = Q 3) (q4 : A 34 = Q 4) (q5 : A 35 = Q 5) (q6 : A 36 = Q 6) (q7 : A 37 = Q 7) {yr Y : Int} : R 29 (0, L0 29 [vR 74, vR 2, vR 29, vI Y, vI yr], [], LAY A F, 0, 0) (fun r G => r = none ∧ ∃ l11 l75, G = LAY (u (u A 11 l11) 75 l75) F ∧ l11.length = 30 ∧ l75.length = 6 ∧ ∀ i : Nat, i < e → rd l75 i = T_so n yr Y (A 3) al Q e i) := by
  have h11 : (A 11).length = 30 := hL 11 (by decide)
  have h75 : (A 75).length = 6 := hL 75 (by decide)
  have d0 : (A 30).length = 6 := hL 30 (by decide)
  have d1 : (A 31).length = 6 := hL 31 (by decide)
  have d2 : (A 32).length = 6 := hL 32 (by decide)
  have d3 : (A 33).length = 6 := hL 33 (by decide)
  have d4 : (A 34).length = 6 := hL 34 (by decide)
  have d5 : (A 35).length = 6 := hL 35 (by decide)
  have d6 : (A 36).length = 6 := hL 36 (by decide)
  have d7 : (A 37).length = 6 := hL 37 (by decide)
  have he1 := hQ.1
  have he2 := hQ.2.1
  refine R_s (P := True) (f' := (1, [some (vR 74), some (vR 2), some (vR 29), some (vI Y), some (vI yr), none, none], [vR 2], LAY A F, 0, 0)) hc29 1 rfl trivial ?_
  refine R_cv hc29 rfl rfl (l_clearLine hL hn hn30) (fun r G9 hp9 => ?_)
  obtain ⟨rfl, l11, rfl, hl11, hc11⟩ := hp9
  refine R_s (f' := (4, [some (vR 74), some (vR 2), some (vR 29), some (vI Y), some (vI yr), none, none], [], LAY (u A 11 l11) F, 0, 0)) hc29 0 rfl trivial ?_
  refine R_s (P := True) (f' := (7, [some (vR 74), some (vR 2), some (vR 29), some (vI Y), some (vI yr), some (vI 0), none], [], LAY (u A 11 l11) F, 0, 0)) hc29 2 rfl trivial ?_
  have lp : ∀ (mm i : Nat) (x : Int) (m : List Int), x = (i : Int) → m.length = 30 → (∀ p : Nat, p < n → rd m p = S_un (A 3) Q i p) → i ≤ e → e + 1 ≤ i + mm → R 29 (7, [some (vR 74), some (vR 2), some (vR 29), some (vI Y), some (vI yr), some (vI x), none], [], LAY (u A 11 m) F, 0, 0) (fun r G => r = none ∧ ∃ l11 l75, G = LAY (u (u A 11 l11) 75 l75) F ∧ l11.length = 30 ∧ l75.length = 6 ∧ ∀ i : Nat, i < e → rd l75 i = T_so n yr Y (A 3) al Q e i) := by
    intro mm
    induction mm with
    | zero =>
      intro i x m ex hm1 hz hi hm
      exact absurd hm (by omega)
    | succ mm ih =>
      intro i x m ex hm1 hz hi hm
      have k0 : rd (A 30) x = rd (Q 0) i := by rw [q0, ex]
      have k2 : rd (A 32) x = rd (Q 2) i := by rw [q2, ex]
      have hk := hQ.2.2.2 i
      refine R_s (P := True) (f' := (13, [some (vR 74), some (vR 2), some (vR 29), some (vI Y), some (vI yr), some (vI x), none], [vI (F 9), vI x], LAY (u A 11 m) F, 0, 0)) hc29 3 rfl trivial ?_
      refine R_ic (t := 44) hc29 rfl rfl (fun (c1 : F 9 ≤ x) => ?_) (fun (c1 : ¬ (F 9 ≤ x)) => ?_)
      · refine R_s (P := True) (f' := (45, [some (vR 74), some (vR 2), some (vR 29), some (vI Y), some (vI yr), some (vI x), none], [vR 2], LAY (u A 11 m) F, 0, 0)) hc29 1 rfl trivial ?_
        refine R_cv hc29 rfl rfl (l_aliveMarked (A := u A 11 m) (mk := S_un (A 3) Q i) (LENS_u hL (by rw [hm1, h11])) hn hn30 hal ha hz (fun p _ => S_un_01 i p)) (fun r G9 hp9 => ?_)
        obtain ⟨rfl, rfl⟩ := hp9
        have ei : i = e := by omega
        subst ei
        refine R_s (f' := (48, [some (vR 74), some (vR 2), some (vR 29), some (vI Y), some (vI yr), some (vI x), none], [vI (S_ac n (A 3) al Q i)], LAY (u A 11 m) F, 0, 0)) hc29 0 rfl trivial ?_
        refine R_s (P := True) (f' := (53, [some (vR 74), some (vR 2), some (vR 29), some (vI Y), some (vI yr), some (vI (S_ac n (A 3) al Q i)), some (vI 0)], [], LAY (u A 11 m) F, 0, 0)) hc29 3 rfl trivial ?_
        have lp2 : ∀ (mj j : Nat) (y : Int) (l : List Int), y = (j : Int) → l.length = 6 → (∀ p : Nat, p < j → rd l p = T_so n yr Y (A 3) al Q i p) → j ≤ i → i + 1 ≤ j + mj → R 29 (53, [some (vR 74), some (vR 2), some (vR 29), some (vI Y), some (vI yr), some (vI (S_ac n (A 3) al Q i)), some (vI y)], [], LAY (u (u A 11 m) 75 l) F, 0, 0) (fun r G => r = none ∧ ∃ l11 l75, G = LAY (u (u A 11 l11) 75 l75) F ∧ l11.length = 30 ∧ l75.length = 6 ∧ ∀ q : Nat, q < i → rd l75 q = T_so n yr Y (A 3) al Q i q) := by
          intro mj
          induction mj with
          | zero =>
            intro j y l ey hl hz2 hj hmj
            exact absurd hmj (by omega)
          | succ mj ihj =>
            intro j y l ey hl hz2 hj hmj
            refine R_s (P := True) (f' := (59, [some (vR 74), some (vR 2), some (vR 29), some (vI Y), some (vI yr), some (vI (S_ac n (A 3) al Q i)), some (vI y)], [vI (F 9), vI y], LAY (u (u A 11 m) 75 l) F, 0, 0)) hc29 3 rfl trivial ?_
            refine R_ic (t := 86) hc29 rfl rfl (fun (c1 : F 9 ≤ y) => ?_) (fun (c1 : ¬ (F 9 ≤ y)) => ?_)
            · exact R_retv hc29 rfl rfl ⟨rfl, m, l, rfl, hm1, hl, fun p hp => hz2 p (by omega)⟩
            · refine R_s (P := True) (f' := (76, [some (vR 74), some (vR 2), some (vR 29), some (vI Y), some (vI yr), some (vI (S_ac n (A 3) al Q i)), some (vI y)], [vI (S_ac n (A 3) al Q i), vI Y, vI yr, vI y, vR 29, vI y, vR 75], LAY (u (u A 11 m) 75 l) F, 0, 0)) hc29 8 rfl trivial ?_
              refine R_cv hc29 rfl rfl (l_test1 (A := (u (u A 11 m) 75 l)) (LENS_u (LENS_u hL (by rw [hm1, h11])) (by show l.length = (A 75).length; rw [hl, h75])) hn hn30 hT hal ha hQ hF q0 q1 q2 q3 q4 q5 q6 q7 (i := j) ey (by omega)) (fun r G9 hp9 => ?_)
              obtain ⟨rfl, rfl⟩ := hp9
              refine R_s (f' := (79, [some (vR 74), some (vR 2), some (vR 29), some (vI Y), some (vI yr), some (vI (S_ac n (A 3) al Q i)), some (vI y)], [vI (S_so yr Y (S_ac n (A 3) al Q i) Q j), vI y, vR 75], LAY (u (u A 11 m) 75 l) F, 0, 0)) hc29 0 rfl trivial ?_
              refine R_s (P := ((0 ≤ y ∧ y < ((l).length : Int)) ∧ (S_so yr Y (S_ac n (A 3) al Q i) Q j = 0 ∨ S_so yr Y (S_ac n (A 3) al Q i) Q j = 1)) ∧ inI (y + 1) ∧ True) (f' := (53, [some (vR 74), some (vR 2), some (vR 29), some (vI Y), some (vI yr), some (vI (S_ac n (A 3) al Q i)), some (vI (y + 1))], [], LAY (u (u A 11 m) 75 (wr l y (S_so yr Y (S_ac n (A 3) al Q i) Q j))) F, 0, 0)) hc29 3 rfl ⟨⟨⟨by omega, by omega⟩, S_so_01 _⟩, ⟨by omega, by omega⟩, trivial⟩ ?_
              refine ihj (j + 1) _ _ (by omega) (by rw [wr_len]; exact hl) (fun p hp => ?_) (by omega) (by omega)
              rw [rd_wr (by omega) (by omega) (by omega)]
              by_cases e9 : (p : Int) = y
              · rw [if_pos e9, show p = j by omega]
                rfl
              · rw [if_neg e9]
                exact hz2 p (by omega)
        refine R_s (P := True) (f' := (53, [some (vR 74), some (vR 2), some (vR 29), some (vI Y), some (vI yr), some (vI (S_ac n (A 3) al Q i)), some (vI 0)], [], LAY (u (u A 11 m) 75 (A 75)) F, 0, 0)) hc29 0 rfl trivial ?_
        exact lp2 (i + 1) 0 _ _ rfl h75 (fun p hp => absurd hp (by omega)) (by omega) (by omega)
      · refine R_s (P := (0 ≤ x ∧ x < ((A 30).length : Int)) ∧ True) (f' := (24, [some (vR 74), some (vR 2), some (vR 29), some (vI Y), some (vI yr), some (vI x), none], [vI 1, vI (rd (A 30) x)], LAY (u A 11 m) F, 0, 0)) hc29 5 rfl ⟨⟨by omega, by omega⟩, trivial⟩ ?_
        refine R_ic (t := 38) hc29 rfl rfl (fun (c2 : ¬ rd (A 30) x = 1) => ?_) (fun (c2 : ¬ (¬ rd (A 30) x = 1)) => ?_)
        · refine R_s (P := inI (x + 1) ∧ True) (f' := (7, [some (vR 74), some (vR 2), some (vR 29), some (vI Y), some (vI yr), some (vI (x + 1)), none], [], LAY (u A 11 m) F, 0, 0)) hc29 2 rfl ⟨⟨by omega, by omega⟩, trivial⟩ ?_
          refine ih (i + 1) _ _ (by omega) hm1 (fun p hp => ?_) (by omega) (by omega)
          rw [hz p hp]
          simp only [S_un]
          rw [if_neg (fun q => by omega)]
        · refine R_s (P := (0 ≤ x ∧ x < ((A 32).length : Int)) ∧ True) (f' := (35, [some (vR 74), some (vR 2), some (vR 29), some (vI Y), some (vI yr), some (vI x), none], [vI (rd (A 32) x), vR 2], LAY (u A 11 m) F, 0, 0)) hc29 5 rfl ⟨⟨by omega, by omega⟩, trivial⟩ ?_
          refine R_cv hc29 rfl rfl (l_addLine (A := u A 11 m) (mk := S_un (A 3) Q i) (LENS_u hL (by rw [hm1, h11])) hn hn30 hT (ro := (rd (Q 2) i).toNat) (by have := hk (by omega); omega) (by have := hk (by omega); omega) hz (fun p _ => S_un_01 i p) (fun p hp h0 h1 => S_un_cl hT i (fun j hj hj2 => by have := (hQ.2.2.2 j (by omega)).2.2.2.2.1 (.inl hj2); exact this) p hp h0 h1)) (fun r G9 hp9 => ?_)
          obtain ⟨rfl, m2, e11, hm2, hc12⟩ := hp9
          subst e11
          have hc13 : ∀ p : Nat, p < n → rd m2 p = if rq (A 3) 0 (rd (Q 2) i).toNat p = 1 then 1 else S_un (A 3) Q i p := hc12
          refine R_s (f' := (38, [some (vR 74), some (vR 2), some (vR 29), some (vI Y), some (vI yr), some (vI x), none], [], LAY (u A 11 m2) F, 0, 0)) hc29 0 rfl trivial ?_
          refine R_s (P := inI (x + 1) ∧ True) (f' := (7, [some (vR 74), some (vR 2), some (vR 29), some (vI Y), some (vI yr), some (vI (x + 1)), none], [], LAY (u A 11 m2) F, 0, 0)) hc29 2 rfl ⟨⟨by omega, by omega⟩, trivial⟩ ?_
          refine ih (i + 1) _ _ (by omega) hm2 (fun p hp => ?_) (by omega) (by omega)
          rw [hc13 p hp]
          simp only [S_un]
          by_cases e9 : rq (A 3) 0 (rd (Q 2) i).toNat p = 1
          · rw [if_pos e9, if_pos ⟨by omega, e9⟩]
          · rw [if_neg e9, if_neg (fun q => e9 q.2)]
  exact lp (e + 1) 0 _ _ rfl hl11 hc11 (by omega) (by omega)
