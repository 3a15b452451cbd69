/-- the model's rows of a deed -/
def MD (l99 l100 : List Int) (Q : Nat → List Int) (e : Nat) (d : Int) : Prop := l99.length = 6 ∧ l100.length = 288 ∧ (0 ≤ d ∧ d < 6) ∧ rd l99 d = e ∧ ∀ i : Nat, i < e →
  rd l100 (48 * d + 8 * i) = rd (Q 0) i ∧ (rd (Q 0) i = 3 ∨ rd l100 (48 * d + 8 * i + 1) = rd (Q 1) i) ∧ (rd (Q 0) i = 1 ∨ rd (Q 0) i = 2 → rd l100 (48 * d + 8 * i + 2) = rd (Q 2) i) ∧
  (rd (Q 0) i = 0 ∨ rd (Q 0) i = 3 → rd l100 (48 * d + 8 * i + 3) = rd (Q 3) i) ∧ (rd (Q 0) i = 1 → rd l100 (48 * d + 8 * i + 4) = rd (Q 4) i) ∧
  rd l100 (48 * d + 8 * i + 5) = rd (Q 5) i - 1 ∧ (rd (Q 5) i = 0 ∨ (rd l100 (48 * d + 8 * i + 6) = rd (Q 6) i ∧ rd l100 (48 * d + 8 * i + 7) = rd (Q 7) i ∧ (rd (Q 6) i = 61 ∨ rd (Q 6) i = 60 ∨ rd (Q 6) i = 62)))

theorem l_isSo {A : Nat → List Int} {F : Nat → Int} {n : Nat} (hn : (n : Int) = F 19) (hn30 : n ≤ 30)  {Q : Nat → List Int} {e : Nat} (hQ : QOK n Q e) {d : Int} (hM : MD (A 99) (A 100) Q e d) {a : Int} {i : Nat} (ea : a = 48 * d + 8 * i) (hi : i < e) {yr Y ac : Int} (h18 : F 18 = yr) (h28 : F 28 = Y) (h29 : F 29 = ac) : R 143 (0, L0 143 [vR 88, vI a], [], LAY A F, 0, 0) (fun r G => r = some (vI (S_so yr Y ac Q i)) ∧ G = LAY A F) := by
  have h99 := hM.1
  have h100 := hM.2.1
  have hd := hM.2.2.1
  have hme := hM.2.2.2.1
  have hMi := hM.2.2.2.2
  have he1 := hQ.1
  have he2 := hQ.2.1
  have z := hMi i hi
  have hf := (hQ.2.2.2 i hi).2.2.2.2.2.2.2
  have m5 : rd (A 100) (a + 5) = rd (Q 5) i - 1 := by rw [ea]; exact z.2.2.2.2.2.1
  have m6 : rd (Q 5) i = 0 ∨ (rd (A 100) (a + 6) = rd (Q 6) i ∧ rd (A 100) (a + 7) = rd (Q 7) i ∧ (rd (Q 6) i = 61 ∨ rd (Q 6) i = 60 ∨ rd (Q 6) i = 62)) := by rw [ea]; exact z.2.2.2.2.2.2
  refine R_s (P := inI (a + 5) ∧ (0 ≤ a + 5 ∧ a + 5 < ((A 100).length : Int)) ∧ True) (f' := (9, [some (vR 88), some (vI a), none], [vI (-1), vI (rd (A 100) (a + 5))], LAY A F, 0, 0)) hc143 7 rfl ⟨⟨by omega, by omega⟩, ⟨by omega, by omega⟩, trivial⟩ ?_
  refine R_ic (t := 14) hc143 rfl rfl (fun (c1 : ¬ rd (A 100) (a + 5) = (-1)) => ?_) (fun (c1 : ¬ (¬ rd (A 100) (a + 5) = (-1))) => ?_)
  · refine R_s (P := inI (a + 5) ∧ (0 ≤ a + 5 ∧ a + 5 < ((A 100).length : Int)) ∧ True) (f' := (22, [some (vR 88), some (vI a), none], [vI (rd (A 100) (a + 5))], LAY A F, 0, 0)) hc143 6 rfl ⟨⟨by omega, by omega⟩, ⟨by omega, by omega⟩, trivial⟩ ?_
    refine R_if (t := 32) hc143 rfl rfl (fun (c2 : ¬ rd (A 100) (a + 5) = 0) => ?_) (fun (c2 : ¬ (¬ rd (A 100) (a + 5) = 0)) => ?_)
    · refine R_s (P := inI (a + 5) ∧ (0 ≤ a + 5 ∧ a + 5 < ((A 100).length : Int)) ∧ True) (f' := (41, [some (vR 88), some (vI a), none], [vI 1, vI (rd (A 100) (a + 5))], LAY A F, 0, 0)) hc143 7 rfl ⟨⟨by omega, by omega⟩, ⟨by omega, by omega⟩, trivial⟩ ?_
      refine R_ic (t := 51) hc143 rfl rfl (fun (c3 : ¬ rd (A 100) (a + 5) = 1) => ?_) (fun (c3 : ¬ (¬ rd (A 100) (a + 5) = 1)) => ?_)
      · refine R_s (P := inI (a + 6) ∧ (0 ≤ a + 6 ∧ a + 6 < ((A 100).length : Int)) ∧ True) (f' := (67, [some (vR 88), some (vI a), some (vI (F 29))], [vI 61, vI (rd (A 100) (a + 6))], LAY A F, 0, 0)) hc143 10 rfl ⟨⟨by omega, by omega⟩, ⟨by omega, by omega⟩, trivial⟩ ?_
        refine R_ic (t := 91) hc143 rfl rfl (fun (c4 : ¬ rd (A 100) (a + 6) = 61) => ?_) (fun (c4 : ¬ (¬ rd (A 100) (a + 6) = 61)) => ?_)
        · refine R_s (P := inI (a + 6) ∧ (0 ≤ a + 6 ∧ a + 6 < ((A 100).length : Int)) ∧ True) (f' := (102, [some (vR 88), some (vI a), some (vI (F 29))], [vI 60, vI (rd (A 100) (a + 6))], LAY A F, 0, 0)) hc143 7 rfl ⟨⟨by omega, by omega⟩, ⟨by omega, by omega⟩, trivial⟩ ?_
          refine R_ic (t := 126) hc143 rfl rfl (fun (c5 : ¬ rd (A 100) (a + 6) = 60) => ?_) (fun (c5 : ¬ (¬ rd (A 100) (a + 6) = 60)) => ?_)
          · refine R_s (P := inI (a + 7) ∧ (0 ≤ a + 7 ∧ a + 7 < ((A 100).length : Int)) ∧ True) (f' := (136, [some (vR 88), some (vI a), some (vI (F 29))], [vI (rd (A 100) (a + 7)), vI (F 29)], LAY A F, 0, 0)) hc143 7 rfl ⟨⟨by omega, by omega⟩, ⟨by omega, by omega⟩, trivial⟩ ?_
            refine R_ic (t := 143) hc143 rfl rfl (fun (c6 : F 29 ≤ rd (A 100) (a + 7)) => ?_) (fun (c6 : ¬ (F 29 ≤ rd (A 100) (a + 7))) => ?_)
            · refine R_s (P := True) (f' := (144, [some (vR 88), some (vI a), some (vI (F 29))], [vI 0], LAY A F, 0, 0)) hc143 1 rfl trivial ?_
              exact R_retz hc143 rfl rfl (Or.inl rfl) ⟨by rw [show S_so yr Y ac Q i = 0 by (unfold S_so; (repeat' split) <;> omega)], rfl⟩
            · refine R_s (P := True) (f' := (144, [some (vR 88), some (vI a), some (vI (F 29))], [vI 1], LAY A F, 0, 0)) hc143 2 rfl trivial ?_
              exact R_retz hc143 rfl rfl (Or.inr rfl) ⟨by rw [show S_so yr Y ac Q i = 1 by (unfold S_so; (repeat' split) <;> omega)], rfl⟩
          · refine R_s (P := inI (a + 7) ∧ (0 ≤ a + 7 ∧ a + 7 < ((A 100).length : Int)) ∧ True) (f' := (115, [some (vR 88), some (vI a), some (vI (F 29))], [vI (rd (A 100) (a + 7)), vI (F 29)], LAY A F, 0, 0)) hc143 7 rfl ⟨⟨by omega, by omega⟩, ⟨by omega, by omega⟩, trivial⟩ ?_
            refine R_ic (t := 122) hc143 rfl rfl (fun (c7 : rd (A 100) (a + 7) ≤ F 29) => ?_) (fun (c7 : ¬ (rd (A 100) (a + 7) ≤ F 29)) => ?_)
            · refine R_s (P := True) (f' := (144, [some (vR 88), some (vI a), some (vI (F 29))], [vI 0], LAY A F, 0, 0)) hc143 2 rfl trivial ?_
              exact R_retz hc143 rfl rfl (Or.inl rfl) ⟨by rw [show S_so yr Y ac Q i = 0 by (unfold S_so; (repeat' split) <;> omega)], rfl⟩
            · refine R_s (P := True) (f' := (144, [some (vR 88), some (vI a), some (vI (F 29))], [vI 1], LAY A F, 0, 0)) hc143 2 rfl trivial ?_
              exact R_retz hc143 rfl rfl (Or.inr rfl) ⟨by rw [show S_so yr Y ac Q i = 1 by (unfold S_so; (repeat' split) <;> omega)], rfl⟩
        · refine R_s (P := inI (a + 7) ∧ (0 ≤ a + 7 ∧ a + 7 < ((A 100).length : Int)) ∧ True) (f' := (80, [some (vR 88), some (vI a), some (vI (F 29))], [vI (rd (A 100) (a + 7)), vI (F 29)], LAY A F, 0, 0)) hc143 7 rfl ⟨⟨by omega, by omega⟩, ⟨by omega, by omega⟩, trivial⟩ ?_
          refine R_ic (t := 87) hc143 rfl rfl (fun (c8 : ¬ F 29 = rd (A 100) (a + 7)) => ?_) (fun (c8 : ¬ (¬ F 29 = rd (A 100) (a + 7))) => ?_)
          · refine R_s (P := True) (f' := (144, [some (vR 88), some (vI a), some (vI (F 29))], [vI 0], LAY A F, 0, 0)) hc143 2 rfl trivial ?_
            exact R_retz hc143 rfl rfl (Or.inl rfl) ⟨by rw [show S_so yr Y ac Q i = 0 by (unfold S_so; (repeat' split) <;> omega)], rfl⟩
          · refine R_s (P := True) (f' := (144, [some (vR 88), some (vI a), some (vI (F 29))], [vI 1], LAY A F, 0, 0)) hc143 2 rfl trivial ?_
            exact R_retz hc143 rfl rfl (Or.inr rfl) ⟨by rw [show S_so yr Y ac Q i = 1 by (unfold S_so; (repeat' split) <;> omega)], rfl⟩
      · refine R_s (P := inI (a + 6) ∧ (0 ≤ a + 6 ∧ a + 6 < ((A 100).length : Int)) ∧ True) (f' := (67, [some (vR 88), some (vI a), some (vI (F 28))], [vI 61, vI (rd (A 100) (a + 6))], LAY A F, 0, 0)) hc143 11 rfl ⟨⟨by omega, by omega⟩, ⟨by omega, by omega⟩, trivial⟩ ?_
        refine R_ic (t := 91) hc143 rfl rfl (fun (c9 : ¬ rd (A 100) (a + 6) = 61) => ?_) (fun (c9 : ¬ (¬ rd (A 100) (a + 6) = 61)) => ?_)
        · refine R_s (P := inI (a + 6) ∧ (0 ≤ a + 6 ∧ a + 6 < ((A 100).length : Int)) ∧ True) (f' := (102, [some (vR 88), some (vI a), some (vI (F 28))], [vI 60, vI (rd (A 100) (a + 6))], LAY A F, 0, 0)) hc143 7 rfl ⟨⟨by omega, by omega⟩, ⟨by omega, by omega⟩, trivial⟩ ?_
          refine R_ic (t := 126) hc143 rfl rfl (fun (c10 : ¬ rd (A 100) (a + 6) = 60) => ?_) (fun (c10 : ¬ (¬ rd (A 100) (a + 6) = 60)) => ?_)
          · refine R_s (P := inI (a + 7) ∧ (0 ≤ a + 7 ∧ a + 7 < ((A 100).length : Int)) ∧ True) (f' := (136, [some (vR 88), some (vI a), some (vI (F 28))], [vI (rd (A 100) (a + 7)), vI (F 28)], LAY A F, 0, 0)) hc143 7 rfl ⟨⟨by omega, by omega⟩, ⟨by omega, by omega⟩, trivial⟩ ?_
            refine R_ic (t := 143) hc143 rfl rfl (fun (c11 : F 28 ≤ rd (A 100) (a + 7)) => ?_) (fun (c11 : ¬ (F 28 ≤ rd (A 100) (a + 7))) => ?_)
            · refine R_s (P := True) (f' := (144, [some (vR 88), some (vI a), some (vI (F 28))], [vI 0], LAY A F, 0, 0)) hc143 1 rfl trivial ?_
              exact R_retz hc143 rfl rfl (Or.inl rfl) ⟨by rw [show S_so yr Y ac Q i = 0 by (unfold S_so; (repeat' split) <;> omega)], rfl⟩
            · refine R_s (P := True) (f' := (144, [some (vR 88), some (vI a), some (vI (F 28))], [vI 1], LAY A F, 0, 0)) hc143 2 rfl trivial ?_
              exact R_retz hc143 rfl rfl (Or.inr rfl) ⟨by rw [show S_so yr Y ac Q i = 1 by (unfold S_so; (repeat' split) <;> omega)], rfl⟩
          · refine R_s (P := inI (a + 7) ∧ (0 ≤ a + 7 ∧ a + 7 < ((A 100).length : Int)) ∧ True) (f' := (115, [some (vR 88), some (vI a), some (vI (F 28))], [vI (rd (A 100) (a + 7)), vI (F 28)], LAY A F, 0, 0)) hc143 7 rfl ⟨⟨by omega, by omega⟩, ⟨by omega, by omega⟩, trivial⟩ ?_
            refine R_ic (t := 122) hc143 rfl rfl (fun (c12 : rd (A 100) (a + 7) ≤ F 28) => ?_) (fun (c12 : ¬ (rd (A 100) (a + 7) ≤ F 28)) => ?_)
            · refine R_s (P := True) (f' := (144, [some (vR 88), some (vI a), some (vI (F 28))], [vI 0], LAY A F, 0, 0)) hc143 2 rfl trivial ?_
              exact R_retz hc143 rfl rfl (Or.inl rfl) ⟨by rw [show S_so yr Y ac Q i = 0 by (unfold S_so; (repeat' split) <;> omega)], rfl⟩
            · refine R_s (P := True) (f' := (144, [some (vR 88), some (vI a), some (vI (F 28))], [vI 1], LAY A F, 0, 0)) hc143 2 rfl trivial ?_
              exact R_retz hc143 rfl rfl (Or.inr rfl) ⟨by rw [show S_so yr Y ac Q i = 1 by (unfold S_so; (repeat' split) <;> omega)], rfl⟩
        · refine R_s (P := inI (a + 7) ∧ (0 ≤ a + 7 ∧ a + 7 < ((A 100).length : Int)) ∧ True) (f' := (80, [some (vR 88), some (vI a), some (vI (F 28))], [vI (rd (A 100) (a + 7)), vI (F 28)], LAY A F, 0, 0)) hc143 7 rfl ⟨⟨by omega, by omega⟩, ⟨by omega, by omega⟩, trivial⟩ ?_
          refine R_ic (t := 87) hc143 rfl rfl (fun (c13 : ¬ F 28 = rd (A 100) (a + 7)) => ?_) (fun (c13 : ¬ (¬ F 28 = rd (A 100) (a + 7))) => ?_)
          · refine R_s (P := True) (f' := (144, [some (vR 88), some (vI a), some (vI (F 28))], [vI 0], LAY A F, 0, 0)) hc143 2 rfl trivial ?_
            exact R_retz hc143 rfl rfl (Or.inl rfl) ⟨by rw [show S_so yr Y ac Q i = 0 by (unfold S_so; (repeat' split) <;> omega)], rfl⟩
          · refine R_s (P := True) (f' := (144, [some (vR 88), some (vI a), some (vI (F 28))], [vI 1], LAY A F, 0, 0)) hc143 2 rfl trivial ?_
            exact R_retz hc143 rfl rfl (Or.inr rfl) ⟨by rw [show S_so yr Y ac Q i = 1 by (unfold S_so; (repeat' split) <;> omega)], rfl⟩
    · refine R_s (P := inI (a + 6) ∧ (0 ≤ a + 6 ∧ a + 6 < ((A 100).length : Int)) ∧ True) (f' := (67, [some (vR 88), some (vI a), some (vI (F 18))], [vI 61, vI (rd (A 100) (a + 6))], LAY A F, 0, 0)) hc143 11 rfl ⟨⟨by omega, by omega⟩, ⟨by omega, by omega⟩, trivial⟩ ?_
      refine R_ic (t := 91) hc143 rfl rfl (fun (c14 : ¬ rd (A 100) (a + 6) = 61) => ?_) (fun (c14 : ¬ (¬ rd (A 100) (a + 6) = 61)) => ?_)
      · refine R_s (P := inI (a + 6) ∧ (0 ≤ a + 6 ∧ a + 6 < ((A 100).length : Int)) ∧ True) (f' := (102, [some (vR 88), some (vI a), some (vI (F 18))], [vI 60, vI (rd (A 100) (a + 6))], LAY A F, 0, 0)) hc143 7 rfl ⟨⟨by omega, by omega⟩, ⟨by omega, by omega⟩, trivial⟩ ?_
        refine R_ic (t := 126) hc143 rfl rfl (fun (c15 : ¬ rd (A 100) (a + 6) = 60) => ?_) (fun (c15 : ¬ (¬ rd (A 100) (a + 6) = 60)) => ?_)
        · refine R_s (P := inI (a + 7) ∧ (0 ≤ a + 7 ∧ a + 7 < ((A 100).length : Int)) ∧ True) (f' := (136, [some (vR 88), some (vI a), some (vI (F 18))], [vI (rd (A 100) (a + 7)), vI (F 18)], LAY A F, 0, 0)) hc143 7 rfl ⟨⟨by omega, by omega⟩, ⟨by omega, by omega⟩, trivial⟩ ?_
          refine R_ic (t := 143) hc143 rfl rfl (fun (c16 : F 18 ≤ rd (A 100) (a + 7)) => ?_) (fun (c16 : ¬ (F 18 ≤ rd (A 100) (a + 7))) => ?_)
          · refine R_s (P := True) (f' := (144, [some (vR 88), some (vI a), some (vI (F 18))], [vI 0], LAY A F, 0, 0)) hc143 1 rfl trivial ?_
            exact R_retz hc143 rfl rfl (Or.inl rfl) ⟨by rw [show S_so yr Y ac Q i = 0 by (unfold S_so; (repeat' split) <;> omega)], rfl⟩
          · refine R_s (P := True) (f' := (144, [some (vR 88), some (vI a), some (vI (F 18))], [vI 1], LAY A F, 0, 0)) hc143 2 rfl trivial ?_
            exact R_retz hc143 rfl rfl (Or.inr rfl) ⟨by rw [show S_so yr Y ac Q i = 1 by (unfold S_so; (repeat' split) <;> omega)], rfl⟩
        · refine R_s (P := inI (a + 7) ∧ (0 ≤ a + 7 ∧ a + 7 < ((A 100).length : Int)) ∧ True) (f' := (115, [some (vR 88), some (vI a), some (vI (F 18))], [vI (rd (A 100) (a + 7)), vI (F 18)], LAY A F, 0, 0)) hc143 7 rfl ⟨⟨by omega, by omega⟩, ⟨by omega, by omega⟩, trivial⟩ ?_
          refine R_ic (t := 122) hc143 rfl rfl (fun (c17 : rd (A 100) (a + 7) ≤ F 18) => ?_) (fun (c17 : ¬ (rd (A 100) (a + 7) ≤ F 18)) => ?_)
          · refine R_s (P := True) (f' := (144, [some (vR 88), some (vI a), some (vI (F 18))], [vI 0], LAY A F, 0, 0)) hc143 2 rfl trivial ?_
            exact R_retz hc143 rfl rfl (Or.inl rfl) ⟨by rw [show S_so yr Y ac Q i = 0 by (unfold S_so; (repeat' split) <;> omega)], rfl⟩
          · refine R_s (P := True) (f' := (144, [some (vR 88), some (vI a), some (vI (F 18))], [vI 1], LAY A F, 0, 0)) hc143 2 rfl trivial ?_
            exact R_retz hc143 rfl rfl (Or.inr rfl) ⟨by rw [show S_so yr Y ac Q i = 1 by (unfold S_so; (repeat' split) <;> omega)], rfl⟩
      · refine R_s (P := inI (a + 7) ∧ (0 ≤ a + 7 ∧ a + 7 < ((A 100).length : Int)) ∧ True) (f' := (80, [some (vR 88), some (vI a), some (vI (F 18))], [vI (rd (A 100) (a + 7)), vI (F 18)], LAY A F, 0, 0)) hc143 7 rfl ⟨⟨by omega, by omega⟩, ⟨by omega, by omega⟩, trivial⟩ ?_
        refine R_ic (t := 87) hc143 rfl rfl (fun (c18 : ¬ F 18 = rd (A 100) (a + 7)) => ?_) (fun (c18 : ¬ (¬ F 18 = rd (A 100) (a + 7))) => ?_)
        · refine R_s (P := True) (f' := (144, [some (vR 88), some (vI a), some (vI (F 18))], [vI 0], LAY A F, 0, 0)) hc143 2 rfl trivial ?_
          exact R_retz hc143 rfl rfl (Or.inl rfl) ⟨by rw [show S_so yr Y ac Q i = 0 by (unfold S_so; (repeat' split) <;> omega)], rfl⟩
        · refine R_s (P := True) (f' := (144, [some (vR 88), some (vI a), some (vI (F 18))], [vI 1], LAY A F, 0, 0)) hc143 2 rfl trivial ?_
          exact R_retz hc143 rfl rfl (Or.inr rfl) ⟨by rw [show S_so yr Y ac Q i = 1 by (unfold S_so; (repeat' split) <;> omega)], rfl⟩
  · refine R_s (P := True) (f' := (13, [some (vR 88), some (vI a), none], [vI 1], LAY A F, 0, 0)) hc143 1 rfl trivial ?_
    exact R_retz hc143 rfl rfl (Or.inr rfl) ⟨by rw [show S_so yr Y ac Q i = 1 by (unfold S_so; (repeat' split) <;> omega)], rfl⟩

theorem l_aliveOf {A : Nat → List Int} {F : Nat → Int} {n : Nat} (hn : (n : Int) = F 19) (hn30 : n ≤ 30) (h91 : (A 91).length = 30) (h92 : (A 92).length = 30) (h93 : (A 93).length = 30) (h94 : (A 94).length = 30) (hU : ∀ p : Nat, p < n → rd (A 93) p = 0 ∨ rd (A 93) p = 1) (hTk : ∀ p : Nat, p < n → rd (A 94) p = 0 ∨ rd (A 94) p = 1) {al : Nat → Int} (hal : ∀ p : Nat, p < n → al p = LV (F 18) (A 91) (A 93) (A 92) (fun p => rd (A 94) p) p) (hT : TR (A 90) n) (h90 : (A 90).length = 30) {Q : Nat → List Int} {e : Nat} (hQ : QOK n Q e) {d : Int} (hM : MD (A 99) (A 100) Q e d) (h104 : (A 104).length = 30) (h105 : (A 105).length = 30) (h109 : (A 109).length = 30) : R 142 (0, L0 142 [vR 88, vI d], [], LAY A F, 0, 0) (fun r G => r = some (vI (S_ac n (A 90) al Q e)) ∧ ∃ l104 l105 l109, G = LAY (u (u (u A 104 l104) 105 l105) 109 l109) F ∧ l104.length = 30 ∧ l105.length = 30 ∧ l109.length = 30) := by
  have ha : ∀ p : Nat, p < n → al p = 0 ∨ al p = 1 := fun p hp => by
    rw [hal p hp]
    exact LV_01 (hTk p hp)
  have h99 := hM.1
  have h100 := hM.2.1
  have hd := hM.2.2.1
  have hme := hM.2.2.2.1
  have hMi := hM.2.2.2.2
  have he1 := hQ.1
  have he2 := hQ.2.1
  have lp : ∀ (m i : Nat) (x : Int) (v4 : Option AV) (v5 : Option AV) (w : List Int) (l104 : List Int) (l105 : List Int), x = (i : Int) → w.length = 30 → l104.length = 30 → l105.length = 30 → (∀ q : Nat, q < n → rd w q = S_un (A 90) Q i q * al q) → i ≤ e → e + 1 ≤ i + m → R 142 (27, [some (vR 88), some (vI d), some (vI 0), some (vI x), v4, v5], [], LAY (u (u (u A 104 l104) 105 l105) 109 w) F, 0, 0) (fun r G => r = some (vI (S_ac n (A 90) al Q e)) ∧ ∃ l104 l105 l109, G = LAY (u (u (u A 104 l104) 105 l105) 109 l109) F ∧ l104.length = 30 ∧ l105.length = 30 ∧ l109.length = 30) := by
    intro m
    induction m with
    | zero =>
      intro i x v4 v5 w l104 l105 ex hw hl4 hl5 hz hi hm
      exact absurd hm (by omega)
    | succ m ih =>
      intro i x v4 v5 w l104 l105 ex hw hl4 hl5 hz hi hm
      have m0 : i < e → rd (A 100) (48 * d + 8 * x) = rd (Q 0) i := fun q => by rw [ex]; exact (hMi i q).1
      have m2 : i < e → rd (Q 0) i = 1 → rd (A 100) (48 * d + 8 * x + 2) = rd (Q 2) i ∧ 0 ≤ rd (Q 2) i ∧ rd (Q 2) i < n := fun q q1 => by rw [ex]; exact ⟨(hMi i q).2.2.1 (.inl q1), (hQ.2.2.2 i q).2.2.2.2.1 (.inl q1)⟩
      refine R_s (P := (0 ≤ d ∧ d < ((A 99).length : Int)) ∧ True) (f' := (34, [some (vR 88), some (vI d), some (vI 0), some (vI x), v4, v5], [vI (rd (A 99) d), vI x], LAY (u (u (u A 104 l104) 105 l105) 109 w) F, 0, 0)) hc142 5 rfl ⟨⟨by omega, by omega⟩, trivial⟩ ?_
      refine R_ic (t := 137) hc142 rfl rfl (fun (c1 : rd (A 99) d ≤ x) => ?_) (fun (c1 : ¬ (rd (A 99) d ≤ x)) => ?_)
      · refine R_s (P := True) (f' := (139, [some (vR 88), some (vI d), some (vI 0), some (vI 0), v4, v5], [], LAY (u (u (u A 104 l104) 105 l105) 109 w) F, 0, 0)) hc142 2 rfl trivial ?_
        have lp3 : ∀ (mj j : Nat) (y : Int) (s : Int), y = (j : Int) → s = sm (fun p => S_un (A 90) Q e p * al p) j → j ≤ n → n + 1 ≤ j + mj → R 142 (139, [some (vR 88), some (vI d), some (vI s), some (vI y), v4, v5], [], LAY (u (u (u A 104 l104) 105 l105) 109 w) F, 0, 0) (fun r G => r = some (vI (S_ac n (A 90) al Q e)) ∧ ∃ l104 l105 l109, G = LAY (u (u (u A 104 l104) 105 l105) 109 l109) F ∧ l104.length = 30 ∧ l105.length = 30 ∧ l109.length = 30) := by
          intro mj
          induction mj with
          | zero =>
            intro j y s ey es hj hmj
            exact absurd hmj (by omega)
          | succ mj ihj =>
            intro j y s ey es hj hmj
            have h9 := hz j
            rw [← ey] at h9
            have h01 := fun q => (mul_01 (S_un_01 (P := A 90) (Q := Q) e j) (ha j q)).1
            have hbd := sm_bd (g := fun p => S_un (A 90) Q e p * al p) (b := 1) j (fun q hq => by have := (mul_01 (S_un_01 (P := A 90) (Q := Q) e q) (ha q (by omega))).1; (try dsimp only); omega)
            rw [← es] at hbd
            refine R_s (P := True) (f' := (144, [some (vR 88), some (vI d), some (vI s), some (vI y), v4, v5], [vI (F 19), vI y], LAY (u (u (u A 104 l104) 105 l105) 109 w) F, 0, 0)) hc142 3 rfl trivial ?_
            refine R_ic (t := 170) hc142 rfl rfl (fun (c1 : F 19 ≤ y) => ?_) (fun (c1 : ¬ (F 19 ≤ y)) => ?_)
            · refine R_s (P := True) (f' := (171, [some (vR 88), some (vI d), some (vI s), some (vI y), v4, v5], [vI s], LAY (u (u (u A 104 l104) 105 l105) 109 w) F, 0, 0)) hc142 1 rfl trivial ?_
              exact R_reti hc142 rfl rfl ⟨by rw [es, show j = n by omega]; rfl, l104, l105, w, rfl, hl4, hl5, hw⟩
            · refine R_s (P := (0 ≤ y ∧ y < ((w).length : Int)) ∧ True) (f' := (154, [some (vR 88), some (vI d), some (vI s), some (vI y), v4, v5], [vI (rd w y), vI s], LAY (u (u (u A 104 l104) 105 l105) 109 w) F, 0, 0)) hc142 5 rfl ⟨⟨by omega, by omega⟩, trivial⟩ ?_
              refine R_if (t := 161) hc142 rfl rfl (fun (c2 : rd w y = 0) => ?_) (fun (c2 : ¬ (rd w y = 0)) => ?_)
              · refine R_s (P := inI (s + 0) ∧ inI (y + 1) ∧ True) (f' := (139, [some (vR 88), some (vI d), some (vI (s + 0)), some (vI (y + 1)), v4, v5], [], LAY (u (u (u A 104 l104) 105 l105) 109 w) F, 0, 0)) hc142 5 rfl ⟨⟨by omega, by omega⟩, ⟨by omega, by omega⟩, trivial⟩ ?_
                refine ihj (j + 1) _ _ (by omega) ?_ (by omega) (by omega)
                simp only [sm]
                rw [← es]
                have h91 := h9 (by omega)
                have h02 := h01 (by omega)
                have ei : i = e := by omega
                rw [ei] at h91
                omega
              · refine R_s (P := inI (s + 1) ∧ inI (y + 1) ∧ True) (f' := (139, [some (vR 88), some (vI d), some (vI (s + 1)), some (vI (y + 1)), v4, v5], [], LAY (u (u (u A 104 l104) 105 l105) 109 w) F, 0, 0)) hc142 6 rfl ⟨⟨by omega, by omega⟩, ⟨by omega, by omega⟩, trivial⟩ ?_
                refine ihj (j + 1) _ _ (by omega) ?_ (by omega) (by omega)
                simp only [sm]
                rw [← es]
                have h91 := h9 (by omega)
                have h02 := h01 (by omega)
                have ei : i = e := by omega
                rw [ei] at h91
                omega
        exact lp3 (n + 1) 0 _ _ rfl rfl (by omega) (by omega)
      · refine R_s (P := inI (48 * d) ∧ inI (8 * x) ∧ inI ((48 * d) + (8 * x)) ∧ (0 ≤ (48 * d) + (8 * x) ∧ (48 * d) + (8 * x) < ((A 100).length : Int)) ∧ True) (f' := (56, [some (vR 88), some (vI d), some (vI 0), some (vI x), some (vI ((48 * d) + (8 * x))), v5], [vI 1, vI (rd (A 100) ((48 * d) + (8 * x)))], LAY (u (u (u A 104 l104) 105 l105) 109 w) F, 0, 0)) hc142 13 rfl ⟨⟨by omega, by omega⟩, ⟨by omega, by omega⟩, ⟨by omega, by omega⟩, ⟨by omega, by omega⟩, trivial⟩ ?_
        refine R_ic (t := 131) hc142 rfl rfl (fun (c2 : ¬ rd (A 100) ((48 * d) + (8 * x)) = 1) => ?_) (fun (c2 : ¬ (¬ rd (A 100) ((48 * d) + (8 * x)) = 1)) => ?_)
        · refine R_s (P := inI (x + 1) ∧ True) (f' := (27, [some (vR 88), some (vI d), some (vI 0), some (vI (x + 1)), some (vI ((48 * d) + (8 * x))), v5], [], LAY (u (u (u A 104 l104) 105 l105) 109 w) F, 0, 0)) hc142 2 rfl ⟨⟨by omega, by omega⟩, trivial⟩ ?_
          refine ih (i + 1) _ _ _ _ _ _ (by omega) hw hl4 hl5 (fun q hq => ?_) (by omega) (by omega)
          rw [hz q hq]
          simp only [S_un]
          rw [if_neg (fun z => by have := z.1; omega)]
        · refine R_s (P := inI (((48 * d) + (8 * x)) + 2) ∧ (0 ≤ ((48 * d) + (8 * x)) + 2 ∧ ((48 * d) + (8 * x)) + 2 < ((A 100).length : Int)) ∧ True) (f' := (69, [some (vR 88), some (vI d), some (vI 0), some (vI x), some (vI ((48 * d) + (8 * x))), v5], [vI (rd (A 100) (((48 * d) + (8 * x)) + 2)), vR 88], LAY (u (u (u A 104 l104) 105 l105) 109 w) F, 0, 0)) hc142 7 rfl ⟨⟨by omega, by omega⟩, ⟨by omega, by omega⟩, trivial⟩ ?_
          refine R_cv hc142 rfl rfl (l_findLine (A := (u (u (u A 104 l104) 105 l105) 109 w)) hn hn30 h91 h92 h93 h94 hU hTk hal hT h90 (ro := (rd (Q 2) i).toNat) (by have := m2 (by omega) (by omega); omega) (by have := m2 (by omega) (by omega); omega) hl4 hl5) (fun r G9 hp9 => ?_)
          obtain ⟨rfl, m4, m5, rfl, hm4, hm5, hf0⟩ := hp9
          have hf : ∀ p : Nat, p < n → rd m4 p = rq (A 90) 0 (rd (Q 2) i).toNat p := fun p hp => (hf0 p hp).1
          refine R_s (f' := (72, [some (vR 88), some (vI d), some (vI 0), some (vI x), some (vI ((48 * d) + (8 * x))), v5], [], LAY (u (u (u A 109 w) 104 m4) 105 m5) F, 0, 0)) hc142 0 rfl trivial ?_
          refine R_s (P := True) (f' := (75, [some (vR 88), some (vI d), some (vI 0), some (vI x), some (vI ((48 * d) + (8 * x))), some (vI 0)], [], LAY (u (u (u A 109 w) 104 m4) 105 m5) F, 0, 0)) hc142 2 rfl trivial ?_
          have lp2 : ∀ (mj j : Nat) (y : Int) (v : List Int), y = (j : Int) → v.length = 30 → (∀ q : Nat, q < n → rd v q = if q < j then S_un (A 90) Q (i + 1) q * al q else S_un (A 90) Q i q * al q) → j ≤ n → n + 1 ≤ j + mj → R 142 (75, [some (vR 88), some (vI d), some (vI 0), some (vI x), some (vI (48 * d + 8 * x)), some (vI y)], [], LAY (u (u (u A 104 m4) 105 m5) 109 v) F, 0, 0) (fun r G => r = some (vI (S_ac n (A 90) al Q e)) ∧ ∃ l104 l105 l109, G = LAY (u (u (u A 104 l104) 105 l105) 109 l109) F ∧ l104.length = 30 ∧ l105.length = 30 ∧ l109.length = 30) := by
            intro mj
            induction mj with
            | zero =>
              intro j y v ey hvl hv hj hmj
              exact absurd hmj (by omega)
            | succ mj ihj =>
              intro j y v ey hvl hv hj hmj
              have h9 := hv j
              rw [← ey] at h9
              have g4 := hf j
              rw [← ey] at g4
              have g1 := rq_01 (P := A 90) (q := 0) (p := (rd (Q 2) i).toNat) j
              have g2 := S_un_01 (P := A 90) (Q := Q) i j
              have g3 := ha j
              refine R_s (P := True) (f' := (81, [some (vR 88), some (vI d), some (vI 0), some (vI x), some (vI (48 * d + 8 * x)), some (vI y)], [vI (F 19), vI y], LAY (u (u (u A 104 m4) 105 m5) 109 v) F, 0, 0)) hc142 3 rfl trivial ?_
              refine R_ic (t := 131) hc142 rfl rfl (fun (c1 : F 19 ≤ y) => ?_) (fun (c1 : ¬ (F 19 ≤ y)) => ?_)
              · refine R_s (P := inI (x + 1) ∧ True) (f' := (27, [some (vR 88), some (vI d), some (vI 0), some (vI (x + 1)), some (vI (48 * d + 8 * x)), some (vI y)], [], LAY (u (u (u A 104 m4) 105 m5) 109 v) F, 0, 0)) hc142 2 rfl ⟨⟨by omega, by omega⟩, trivial⟩ ?_
                exact ih (i + 1) _ _ _ _ _ _ (by omega) hvl hm4 hm5 (fun q hq => by rw [hv q hq, if_pos (by omega)]) (by omega) (by omega)
              · refine R_s (P := (0 ≤ y ∧ y < ((v).length : Int)) ∧ True) (f' := (97, [some (vR 88), some (vI d), some (vI 0), some (vI x), some (vI (48 * d + 8 * x)), some (vI y)], [vI (rd v y), vI y, vR 109], LAY (u (u (u A 104 m4) 105 m5) 109 v) F, 0, 0)) hc142 7 rfl ⟨⟨by omega, by omega⟩, trivial⟩ ?_
                refine R_if (t := 119) hc142 rfl rfl (fun (c2 : ¬ rd v y = 0) => ?_) (fun (c2 : ¬ (¬ rd v y = 0)) => ?_)
                · refine R_s (P := ((0 ≤ y ∧ y < ((v).length : Int)) ∧ (1 = 0 ∨ 1 = 1)) ∧ inI (y + 1) ∧ True) (f' := (75, [some (vR 88), some (vI d), some (vI 0), some (vI x), some (vI (48 * d + 8 * x)), some (vI (y + 1))], [], LAY (u (u (u A 104 m4) 105 m5) 109 (wr v y 1)) F, 0, 0)) hc142 5 rfl ⟨⟨⟨by omega, by omega⟩, by omega⟩, ⟨by omega, by omega⟩, trivial⟩ ?_
                  have h91 := h9 (by omega)
                  have g41 := g4 (by omega)
                  have g31 := g3 (by omega)
                  rw [if_neg (by omega)] at h91
                  refine ihj (j + 1) _ _ (by omega) (by rw [wr_len]; exact hvl) (fun q hq => ?_) (by omega) (by omega)
                  rw [rd_wr (by omega) (by omega) (by omega)]
                  by_cases e9 : (q : Int) = y
                  · have e2 : q = j := by omega
                    subst e2
                    rw [if_pos e9, if_pos (by omega)]
                    have a0 : (rd (Q 0) i = 1 ∧ rq (A 90) 0 (rd (Q 2) i).toNat q = 1) ↔ rq (A 90) 0 (rd (Q 2) i).toNat q = 1 := ⟨fun z => z.2, fun z => ⟨by omega, z⟩⟩
                    simp only [S_un, a0]
                    rcases g1 with g1 | g1 <;> rcases g2 with g2 | g2 <;> rcases g31 with g3 | g3 <;> rw [g2, g3] at h91 <;> rw [g1] <;> rw [g2, g3] <;> first | rfl | omega
                  · rw [if_neg e9, hv q hq]
                    by_cases e3 : q < j
                    · rw [if_pos e3, if_pos (by omega)]
                    · rw [if_neg e3, if_neg (by omega)]
                · refine R_s (P := (0 ≤ y ∧ y < ((m4).length : Int)) ∧ True) (f' := (107, [some (vR 88), some (vI d), some (vI 0), some (vI x), some (vI (48 * d + 8 * x)), some (vI y)], [vI (rd m4 y), vI y, vR 109], LAY (u (u (u A 104 m4) 105 m5) 109 v) F, 0, 0)) hc142 4 rfl ⟨⟨by omega, by omega⟩, trivial⟩ ?_
                  refine R_if (t := 123) hc142 rfl rfl (fun (c3 : rd m4 y = 0) => ?_) (fun (c3 : ¬ (rd m4 y = 0)) => ?_)
                  · refine R_s (P := ((0 ≤ y ∧ y < ((v).length : Int)) ∧ (0 = 0 ∨ 0 = 1)) ∧ inI (y + 1) ∧ True) (f' := (75, [some (vR 88), some (vI d), some (vI 0), some (vI x), some (vI (48 * d + 8 * x)), some (vI (y + 1))], [], LAY (u (u (u A 104 m4) 105 m5) 109 (wr v y 0)) F, 0, 0)) hc142 4 rfl ⟨⟨⟨by omega, by omega⟩, by omega⟩, ⟨by omega, by omega⟩, trivial⟩ ?_
                    have h91 := h9 (by omega)
                    have g41 := g4 (by omega)
                    have g31 := g3 (by omega)
                    rw [if_neg (by omega)] at h91
                    refine ihj (j + 1) _ _ (by omega) (by rw [wr_len]; exact hvl) (fun q hq => ?_) (by omega) (by omega)
                    rw [rd_wr (by omega) (by omega) (by omega)]
                    by_cases e9 : (q : Int) = y
                    · have e2 : q = j := by omega
                      subst e2
                      rw [if_pos e9, if_pos (by omega)]
                      have a0 : (rd (Q 0) i = 1 ∧ rq (A 90) 0 (rd (Q 2) i).toNat q = 1) ↔ rq (A 90) 0 (rd (Q 2) i).toNat q = 1 := ⟨fun z => z.2, fun z => ⟨by omega, z⟩⟩
                      simp only [S_un, a0]
                      rcases g1 with g1 | g1 <;> rcases g2 with g2 | g2 <;> rcases g31 with g3 | g3 <;> rw [g2, g3] at h91 <;> rw [g1] <;> rw [g2, g3] <;> first | rfl | omega
                    · rw [if_neg e9, hv q hq]
                      by_cases e3 : q < j
                      · rw [if_pos e3, if_pos (by omega)]
                      · rw [if_neg e3, if_neg (by omega)]
                  · refine R_s (P := True) (f' := (113, [some (vR 88), some (vI d), some (vI 0), some (vI x), some (vI (48 * d + 8 * x)), some (vI y)], [vI y, vR 88, vI y, vR 109], LAY (u (u (u A 104 m4) 105 m5) 109 v) F, 0, 0)) hc142 2 rfl trivial ?_
                    refine R_cv hc142 rfl rfl (l_lives (A := (u (u (u A 104 m4) 105 m5) 109 v)) (F := F) hn hn30 h91 h92 h93 h94 hU hTk hal (k := j) ey (by omega)) (fun r G9 hp9 => ?_)
                    obtain ⟨rfl, rfl⟩ := hp9
                    refine R_s (f' := (116, [some (vR 88), some (vI d), some (vI 0), some (vI x), some (vI (48 * d + 8 * x)), some (vI y)], [vI (al j), vI y, vR 109], LAY (u (u (u A 104 m4) 105 m5) 109 v) F, 0, 0)) hc142 0 rfl trivial ?_
                    refine R_if (t := 123) hc142 rfl rfl (fun (c4 : al j = 0) => ?_) (fun (c4 : ¬ (al j = 0)) => ?_)
                    · refine R_s (P := ((0 ≤ y ∧ y < ((v).length : Int)) ∧ (0 = 0 ∨ 0 = 1)) ∧ inI (y + 1) ∧ True) (f' := (75, [some (vR 88), some (vI d), some (vI 0), some (vI x), some (vI (48 * d + 8 * x)), some (vI (y + 1))], [], LAY (u (u (u A 104 m4) 105 m5) 109 (wr v y 0)) F, 0, 0)) hc142 4 rfl ⟨⟨⟨by omega, by omega⟩, by omega⟩, ⟨by omega, by omega⟩, trivial⟩ ?_
                      have h91 := h9 (by omega)
                      have g41 := g4 (by omega)
                      have g31 := g3 (by omega)
                      rw [if_neg (by omega)] at h91
                      refine ihj (j + 1) _ _ (by omega) (by rw [wr_len]; exact hvl) (fun q hq => ?_) (by omega) (by omega)
                      rw [rd_wr (by omega) (by omega) (by omega)]
                      by_cases e9 : (q : Int) = y
                      · have e2 : q = j := by omega
                        subst e2
                        rw [if_pos e9, if_pos (by omega)]
                        have a0 : (rd (Q 0) i = 1 ∧ rq (A 90) 0 (rd (Q 2) i).toNat q = 1) ↔ rq (A 90) 0 (rd (Q 2) i).toNat q = 1 := ⟨fun z => z.2, fun z => ⟨by omega, z⟩⟩
                        simp only [S_un, a0]
                        rcases g1 with g1 | g1 <;> rcases g2 with g2 | g2 <;> rcases g31 with g3 | g3 <;> rw [g2, g3] at h91 <;> rw [g1] <;> rw [g2, g3] <;> first | rfl | omega
                      · rw [if_neg e9, hv q hq]
                        by_cases e3 : q < j
                        · rw [if_pos e3, if_pos (by omega)]
                        · rw [if_neg e3, if_neg (by omega)]
                    · refine R_s (P := ((0 ≤ y ∧ y < ((v).length : Int)) ∧ (1 = 0 ∨ 1 = 1)) ∧ inI (y + 1) ∧ True) (f' := (75, [some (vR 88), some (vI d), some (vI 0), some (vI x), some (vI (48 * d + 8 * x)), some (vI (y + 1))], [], LAY (u (u (u A 104 m4) 105 m5) 109 (wr v y 1)) F, 0, 0)) hc142 5 rfl ⟨⟨⟨by omega, by omega⟩, by omega⟩, ⟨by omega, by omega⟩, trivial⟩ ?_
                      have h91 := h9 (by omega)
                      have g41 := g4 (by omega)
                      have g31 := g3 (by omega)
                      rw [if_neg (by omega)] at h91
                      refine ihj (j + 1) _ _ (by omega) (by rw [wr_len]; exact hvl) (fun q hq => ?_) (by omega) (by omega)
                      rw [rd_wr (by omega) (by omega) (by omega)]
                      by_cases e9 : (q : Int) = y
                      · have e2 : q = j := by omega
                        subst e2
                        rw [if_pos e9, if_pos (by omega)]
                        have a0 : (rd (Q 0) i = 1 ∧ rq (A 90) 0 (rd (Q 2) i).toNat q = 1) ↔ rq (A 90) 0 (rd (Q 2) i).toNat q = 1 := ⟨fun z => z.2, fun z => ⟨by omega, z⟩⟩
                        simp only [S_un, a0]
                        rcases g1 with g1 | g1 <;> rcases g2 with g2 | g2 <;> rcases g31 with g3 | g3 <;> rw [g2, g3] at h91 <;> rw [g1] <;> rw [g2, g3] <;> first | rfl | omega
                      · rw [if_neg e9, hv q hq]
                        by_cases e3 : q < j
                        · rw [if_pos e3, if_pos (by omega)]
                        · rw [if_neg e3, if_neg (by omega)]
          refine R_s (P := True) (f' := (75, [some (vR 88), some (vI d), some (vI 0), some (vI x), some (vI (48 * d + 8 * x)), some (vI 0)], [], LAY (u (u (u A 104 m4) 105 m5) 109 w) F, 0, 0)) hc142 0 rfl trivial ?_
          exact lp2 (n + 1) 0 _ _ rfl hw (fun q hq => by rw [if_neg (by omega), hz q hq]) (by omega) (by omega)
  have lp1 : ∀ (m i : Nat) (x : Int) (w : List Int), x = (i : Int) → w.length = 30 → (∀ q : Nat, q < i → rd w q = 0) → i ≤ n → n + 1 ≤ i + m → R 142 (4, [some (vR 88), some (vI d), some (vI 0), some (vI x), none, none], [], LAY (u (u (u A 104 (A 104)) 105 (A 105)) 109 w) F, 0, 0) (fun r G => r = some (vI (S_ac n (A 90) al Q e)) ∧ ∃ l104 l105 l109, G = LAY (u (u (u A 104 l104) 105 l105) 109 l109) F ∧ l104.length = 30 ∧ l105.length = 30 ∧ l109.length = 30) := by
    intro m
    induction m with
    | zero =>
      intro i x w ex hw hz hi hm
      exact absurd hm (by omega)
    | succ m ih =>
      intro i x w ex hw hz hi hm
      refine R_s (P := True) (f' := (9, [some (vR 88), some (vI d), some (vI 0), some (vI x), none, none], [vI (F 19), vI x], LAY (u (u (u A 104 (A 104)) 105 (A 105)) 109 w) F, 0, 0)) hc142 3 rfl trivial ?_
      refine R_ic (t := 25) hc142 rfl rfl (fun (c1 : F 19 ≤ x) => ?_) (fun (c1 : ¬ (F 19 ≤ x)) => ?_)
      · refine R_s (P := True) (f' := (27, [some (vR 88), some (vI d), some (vI 0), some (vI 0), none, none], [], LAY (u (u (u A 104 (A 104)) 105 (A 105)) 109 w) F, 0, 0)) hc142 2 rfl trivial ?_
        exact lp (e + 1) 0 _ _ _ _ _ _ rfl hw h104 h105 (fun q hq => by rw [hz q (by omega)]; simp only [S_un]; rw [Int.zero_mul]) (by omega) (by omega)
      · refine R_s (P := ((0 ≤ x ∧ x < ((w).length : Int)) ∧ (0 = 0 ∨ 0 = 1)) ∧ inI (x + 1) ∧ True) (f' := (4, [some (vR 88), some (vI d), some (vI 0), some (vI (x + 1)), none, none], [], LAY (u (u (u A 104 (A 104)) 105 (A 105)) 109 (wr w x 0)) F, 0, 0)) hc142 7 rfl ⟨⟨⟨by omega, by omega⟩, by omega⟩, ⟨by omega, by omega⟩, trivial⟩ ?_
        exact ih (i + 1) _ _ (by omega) (by rw [wr_len]; exact hw) (fun p hp => by rw [rd_wr (by omega) (by omega) (by omega)]; split <;> first | rfl | exact hz p (by omega)) (by omega) (by omega)
  refine R_s (P := True) (f' := (0, [some (vR 88), some (vI d), none, none, none, none], [], LAY (u (u (u A 104 (A 104)) 105 (A 105)) 109 (A 109)) F, 0, 0)) hc142 0 (by rw [u_self, u_self, u_self]; rfl) trivial ?_
  refine R_s (P := True) (f' := (4, [some (vR 88), some (vI d), some (vI 0), some (vI 0), none, none], [], LAY (u (u (u A 104 (A 104)) 105 (A 105)) 109 (A 109)) F, 0, 0)) hc142 4 rfl trivial ?_
  exact lp1 (n + 1) 0 _ _ rfl h109 (fun q hq => absurd hq (by omega)) (by omega) (by omega)

