/-- whether a deed is sound: roots that are there, a manager's hundredths, twelfths -/
def bAD (k nu ro n : Int) : Prop := ((k = 1 ∨ k = 2) ∧ n ≤ ro) ∨ (k = 2 ∧ 100 < nu)
def sOUND (K N Ro : Nat → Int) (n : Int) (e : Nat) : Prop := (∀ j, j < e → ¬ bAD (K j) (N j) (Ro j) n) ∧ sm (fun j => if K j = 1 then N j else 0) e ≤ 12
theorem sOUND_eq {K N Ro K' N' Ro' : Nat → Int} {n : Int} {e : Nat} (h : ∀ j, j < e → K j = K' j ∧ (K j = 1 ∨ K j = 2 → N j = N' j ∧ Ro j = Ro' j)) : sOUND K N Ro n e ↔ sOUND K' N' Ro' n e := by
  have e1 : sm (fun j => if K j = 1 then N j else 0) e = sm (fun j => if K' j = 1 then N' j else 0) e := sm_congr e (fun j hj => by
    have z := h j hj
    by_cases q : K j = 1
    · rw [if_pos q, if_pos (by omega), (z.2 (.inl q)).1]
    · rw [if_neg q, if_neg (by omega)])
  have e2 : ∀ j, j < e → (bAD (K j) (N j) (Ro j) n ↔ bAD (K' j) (N' j) (Ro' j) n) := fun j hj => by
    have z := h j hj
    unfold bAD
    by_cases q : K j = 1 ∨ K j = 2
    · have z2 := z.2 q
      rw [z.1, z2.1, z2.2]
    · constructor
      · intro w
        omega
      · intro w
        omega
  unfold sOUND
  rw [e1]
  exact ⟨fun w => ⟨fun j hj q => w.1 j hj ((e2 j hj).mpr q), w.2⟩, fun w => ⟨fun j hj q => w.1 j hj ((e2 j hj).mp q), w.2⟩⟩
theorem l_sound0 {A : Nat → List Int} {F : Nat → Int} (hL : LENS A) {e : Nat} (he : e ≤ 6) (hF : F 8 = e) {n : Int} (hN : ∀ j : Nat, j < e → rd (A 21) j = 1 → 0 ≤ rd (A 22) j ∧ rd (A 22) j ≤ 9999) : R 2 (0, L0 2 [vR 20, vI n], [], LAY A F, 0, 0) (fun r G => ∃ c, r = some (vI c) ∧ G = LAY A F ∧ ((c = 1 ∧ sOUND (fun j => rd (A 21) j) (fun j => rd (A 22) j) (fun j => rd (A 23) j) n e) ∨ (c = 0 ∧ ¬ sOUND (fun j => rd (A 21) j) (fun j => rd (A 22) j) (fun j => rd (A 23) j) n e))) := by
  have d0 : (A 21).length = 6 := hL 21 (by decide)
  have d1 : (A 22).length = 6 := hL 22 (by decide)
  have d2 : (A 23).length = 6 := hL 23 (by decide)
  have lp : ∀ (m i : Nat) (x : Int) (s : Int) (fl : Option AV), x = (i : Int) → s = sm (fun j : Nat => if rd (A 21) j = 1 then rd (A 22) j else 0) i → (∀ j, j < i → ¬ bAD ((fun j => rd (A 21) j) j) ((fun j => rd (A 22) j) j) ((fun j => rd (A 23) j) j) n) → i ≤ e → e + 1 ≤ i + m → R 2 (4, [some (vR 20), some (vI n), some (vI s), some (vI x), fl], [], LAY A F, 0, 0) (fun r G => ∃ c, r = some (vI c) ∧ G = LAY A F ∧ ((c = 1 ∧ sOUND (fun j => rd (A 21) j) (fun j => rd (A 22) j) (fun j => rd (A 23) j) n e) ∨ (c = 0 ∧ ¬ sOUND (fun j => rd (A 21) j) (fun j => rd (A 22) j) (fun j => rd (A 23) j) n e))) := by
    intro m
    induction m with
    | zero =>
      intro i x s fl ex es hb hi hm
      exact absurd hm (by omega)
    | succ m ih =>
      intro i x s fl ex es hb hi hm
      have hbd := sm_bd (g := (fun j : Nat => if rd (A 21) j = 1 then rd (A 22) j else 0)) (b := 9999) i (fun j hj => by
        have z := hN j (by omega)
        (try dsimp only)
        split
        · rename_i q
          exact z q
        · omega)
      rw [← es] at hbd
      have hNi := hN i
      rw [← ex] at hNi
      refine R_s (P := True) (f' := (9, [some (vR 20), some (vI n), some (vI s), some (vI x), fl], [vI (F 8), vI x], LAY A F, 0, 0)) hc2 3 rfl trivial ?_
      refine R_ic (t := 104) hc2 rfl rfl (fun (c1 : F 8 ≤ x) => ?_) (fun (c1 : ¬ (F 8 ≤ x)) => ?_)
      · refine R_s (P := True) (f' := (107, [some (vR 20), some (vI n), some (vI s), some (vI x), fl], [vI 12, vI s], LAY A F, 0, 0)) hc2 2 rfl trivial ?_
        refine R_ic (t := 114) hc2 rfl rfl (fun (c2 : 12 < s) => ?_) (fun (c2 : ¬ (12 < s)) => ?_)
        · refine R_s (P := True) (f' := (115, [some (vR 20), some (vI n), some (vI s), some (vI x), fl], [vI 0], LAY A F, 0, 0)) hc2 1 rfl trivial ?_
          refine R_retz hc2 rfl rfl (Or.inl rfl) ⟨0, rfl, rfl, .inr ⟨rfl, fun z => ?_⟩⟩
          have z1 : sm (fun j : Nat => if rd (A 21) j = 1 then rd (A 22) j else 0) e = s := by rw [es, show i = e by omega]
          have z2 := z.2
          rw [z1] at z2
          omega
        · refine R_s (P := True) (f' := (115, [some (vR 20), some (vI n), some (vI s), some (vI x), fl], [vI 1], LAY A F, 0, 0)) hc2 2 rfl trivial ?_
          refine R_retz hc2 rfl rfl (Or.inr rfl) ⟨1, rfl, rfl, .inl ⟨rfl, fun j hj => hb j (by omega), ?_⟩⟩
          have z : sm (fun j : Nat => if rd (A 21) j = 1 then rd (A 22) j else 0) e = s := by rw [es, show i = e by omega]
          rw [z]
          omega
      · refine R_s (P := (0 ≤ x ∧ x < ((A 21).length : Int)) ∧ True) (f' := (19, [some (vR 20), some (vI n), some (vI s), some (vI x), fl], [vI 1, vI (rd (A 21) x)], LAY A F, 0, 0)) hc2 5 rfl ⟨⟨by omega, by omega⟩, trivial⟩ ?_
        refine R_ic (t := 32) hc2 rfl rfl (fun (c3 : rd (A 21) x = 1) => ?_) (fun (c3 : ¬ (rd (A 21) x = 1)) => ?_)
        · refine R_s (P := True) (f' := (41, [some (vR 20), some (vI n), some (vI s), some (vI x), some (vI 1)], [vI 1], LAY A F, 0, 0)) hc2 4 rfl trivial ?_
          refine R_if (t := 56) hc2 rfl rfl (fun (z : 1 = 0) => absurd z (by decide)) (fun (_ : ¬ (1 = 0)) => ?_)
          refine R_s (P := (0 ≤ x ∧ x < ((A 23).length : Int)) ∧ True) (f' := (51, [some (vR 20), some (vI n), some (vI s), some (vI x), some (vI 1)], [vI n, vI (rd (A 23) x)], LAY A F, 0, 0)) hc2 5 rfl ⟨⟨by omega, by omega⟩, trivial⟩ ?_
          refine R_ic (t := 56) hc2 rfl rfl (fun (c5 : rd (A 23) x < n) => ?_) (fun (c5 : ¬ (rd (A 23) x < n)) => ?_)
          · refine R_s (P := (0 ≤ x ∧ x < ((A 21).length : Int)) ∧ True) (f' := (63, [some (vR 20), some (vI n), some (vI s), some (vI x), some (vI 1)], [vI 2, vI (rd (A 21) x)], LAY A F, 0, 0)) hc2 5 rfl ⟨⟨by omega, by omega⟩, trivial⟩ ?_
            refine R_ic (t := 79) hc2 rfl rfl (fun (_ : ¬ rd (A 21) x = 2) => ?_) (fun (z : ¬ (¬ rd (A 21) x = 2)) => absurd (show ¬ rd (A 21) x = 2 by omega) z)
            refine R_s (P := (0 ≤ x ∧ x < ((A 21).length : Int)) ∧ True) (f' := (86, [some (vR 20), some (vI n), some (vI s), some (vI x), some (vI 1)], [vI 1, vI (rd (A 21) x)], LAY A F, 0, 0)) hc2 5 rfl ⟨⟨by omega, by omega⟩, trivial⟩ ?_
            refine R_ic (t := 98) hc2 rfl rfl (fun (z : ¬ rd (A 21) x = 1) => absurd z (by omega)) (fun (_ : ¬ (¬ rd (A 21) x = 1)) => ?_)
            refine R_s (P := (0 ≤ x ∧ x < ((A 22).length : Int)) ∧ inI (s + (rd (A 22) x)) ∧ inI (x + 1) ∧ True) (f' := (4, [some (vR 20), some (vI n), some (vI (s + (rd (A 22) x))), some (vI (x + 1)), some (vI 1)], [], LAY A F, 0, 0)) hc2 9 rfl ⟨⟨by omega, by omega⟩, ⟨by omega, by omega⟩, ⟨by omega, by omega⟩, trivial⟩ ?_
            refine ih (i + 1) _ _ _ (by omega) ?_ (fun j hj => ?_) (by omega) (by omega)
            · simp only [sm]
              rw [← es, ← ex]
              split <;> omega
            · by_cases q : j = i
              · rw [q]
                (try dsimp only)
                rw [← ex]
                unfold bAD
                omega
              · exact hb j (by omega)
          · refine R_s (P := True) (f' := (55, [some (vR 20), some (vI n), some (vI s), some (vI x), some (vI 1)], [vI 0], LAY A F, 0, 0)) hc2 1 rfl trivial ?_
            refine R_retz hc2 rfl rfl (Or.inl rfl) ⟨0, rfl, rfl, .inr ⟨rfl, fun z => z.1 i (by omega) ?_⟩⟩
            (try dsimp only)
            rw [← ex]
            unfold bAD
            omega
        · refine R_s (P := (0 ≤ x ∧ x < ((A 21).length : Int)) ∧ True) (f' := (29, [some (vR 20), some (vI n), some (vI s), some (vI x), fl], [vI 2, vI (rd (A 21) x)], LAY A F, 0, 0)) hc2 5 rfl ⟨⟨by omega, by omega⟩, trivial⟩ ?_
          refine R_ic (t := 36) hc2 rfl rfl (fun (c8 : ¬ rd (A 21) x = 2) => ?_) (fun (c8 : ¬ (¬ rd (A 21) x = 2)) => ?_)
          · refine R_s (P := True) (f' := (41, [some (vR 20), some (vI n), some (vI s), some (vI x), some (vI 0)], [vI 0], LAY A F, 0, 0)) hc2 3 rfl trivial ?_
            refine R_if (t := 56) hc2 rfl rfl (fun (_ : 0 = 0) => ?_) (fun (z : ¬ (0 = 0)) => absurd (by decide) z)
            refine R_s (P := (0 ≤ x ∧ x < ((A 21).length : Int)) ∧ True) (f' := (63, [some (vR 20), some (vI n), some (vI s), some (vI x), some (vI 0)], [vI 2, vI (rd (A 21) x)], LAY A F, 0, 0)) hc2 5 rfl ⟨⟨by omega, by omega⟩, trivial⟩ ?_
            refine R_ic (t := 79) hc2 rfl rfl (fun (_ : ¬ rd (A 21) x = 2) => ?_) (fun (z : ¬ (¬ rd (A 21) x = 2)) => absurd (show ¬ rd (A 21) x = 2 by omega) z)
            refine R_s (P := (0 ≤ x ∧ x < ((A 21).length : Int)) ∧ True) (f' := (86, [some (vR 20), some (vI n), some (vI s), some (vI x), some (vI 0)], [vI 1, vI (rd (A 21) x)], LAY A F, 0, 0)) hc2 5 rfl ⟨⟨by omega, by omega⟩, trivial⟩ ?_
            refine R_ic (t := 98) hc2 rfl rfl (fun (_ : ¬ rd (A 21) x = 1) => ?_) (fun (z : ¬ (¬ rd (A 21) x = 1)) => absurd (show ¬ rd (A 21) x = 1 by omega) z)
            refine R_s (P := inI (x + 1) ∧ True) (f' := (4, [some (vR 20), some (vI n), some (vI s), some (vI (x + 1)), some (vI 0)], [], LAY A F, 0, 0)) hc2 2 rfl ⟨⟨by omega, by omega⟩, trivial⟩ ?_
            refine ih (i + 1) _ _ _ (by omega) ?_ (fun j hj => ?_) (by omega) (by omega)
            · simp only [sm]
              rw [← es, ← ex]
              split <;> omega
            · by_cases q : j = i
              · rw [q]
                (try dsimp only)
                rw [← ex]
                unfold bAD
                omega
              · exact hb j (by omega)
          · refine R_s (P := True) (f' := (41, [some (vR 20), some (vI n), some (vI s), some (vI x), some (vI 1)], [vI 1], LAY A F, 0, 0)) hc2 4 rfl trivial ?_
            refine R_if (t := 56) hc2 rfl rfl (fun (z : 1 = 0) => absurd z (by decide)) (fun (_ : ¬ (1 = 0)) => ?_)
            refine R_s (P := (0 ≤ x ∧ x < ((A 23).length : Int)) ∧ True) (f' := (51, [some (vR 20), some (vI n), some (vI s), some (vI x), some (vI 1)], [vI n, vI (rd (A 23) x)], LAY A F, 0, 0)) hc2 5 rfl ⟨⟨by omega, by omega⟩, trivial⟩ ?_
            refine R_ic (t := 56) hc2 rfl rfl (fun (c13 : rd (A 23) x < n) => ?_) (fun (c13 : ¬ (rd (A 23) x < n)) => ?_)
            · refine R_s (P := (0 ≤ x ∧ x < ((A 21).length : Int)) ∧ True) (f' := (63, [some (vR 20), some (vI n), some (vI s), some (vI x), some (vI 1)], [vI 2, vI (rd (A 21) x)], LAY A F, 0, 0)) hc2 5 rfl ⟨⟨by omega, by omega⟩, trivial⟩ ?_
              refine R_ic (t := 79) hc2 rfl rfl (fun (z : ¬ rd (A 21) x = 2) => absurd z (by omega)) (fun (_ : ¬ (¬ rd (A 21) x = 2)) => ?_)
              refine R_s (P := (0 ≤ x ∧ x < ((A 22).length : Int)) ∧ True) (f' := (74, [some (vR 20), some (vI n), some (vI s), some (vI x), some (vI 1)], [vI 100, vI (rd (A 22) x)], LAY A F, 0, 0)) hc2 5 rfl ⟨⟨by omega, by omega⟩, trivial⟩ ?_
              refine R_ic (t := 79) hc2 rfl rfl (fun (c15 : rd (A 22) x ≤ 100) => ?_) (fun (c15 : ¬ (rd (A 22) x ≤ 100)) => ?_)
              · refine R_s (P := (0 ≤ x ∧ x < ((A 21).length : Int)) ∧ True) (f' := (86, [some (vR 20), some (vI n), some (vI s), some (vI x), some (vI 1)], [vI 1, vI (rd (A 21) x)], LAY A F, 0, 0)) hc2 5 rfl ⟨⟨by omega, by omega⟩, trivial⟩ ?_
                refine R_ic (t := 98) hc2 rfl rfl (fun (_ : ¬ rd (A 21) x = 1) => ?_) (fun (z : ¬ (¬ rd (A 21) x = 1)) => absurd (show ¬ rd (A 21) x = 1 by omega) z)
                refine R_s (P := inI (x + 1) ∧ True) (f' := (4, [some (vR 20), some (vI n), some (vI s), some (vI (x + 1)), some (vI 1)], [], LAY A F, 0, 0)) hc2 2 rfl ⟨⟨by omega, by omega⟩, trivial⟩ ?_
                refine ih (i + 1) _ _ _ (by omega) ?_ (fun j hj => ?_) (by omega) (by omega)
                · simp only [sm]
                  rw [← es, ← ex]
                  split <;> omega
                · by_cases q : j = i
                  · rw [q]
                    (try dsimp only)
                    rw [← ex]
                    unfold bAD
                    omega
                  · exact hb j (by omega)
              · refine R_s (P := True) (f' := (78, [some (vR 20), some (vI n), some (vI s), some (vI x), some (vI 1)], [vI 0], LAY A F, 0, 0)) hc2 1 rfl trivial ?_
                refine R_retz hc2 rfl rfl (Or.inl rfl) ⟨0, rfl, rfl, .inr ⟨rfl, fun z => z.1 i (by omega) ?_⟩⟩
                (try dsimp only)
                rw [← ex]
                unfold bAD
                omega
            · refine R_s (P := True) (f' := (55, [some (vR 20), some (vI n), some (vI s), some (vI x), some (vI 1)], [vI 0], LAY A F, 0, 0)) hc2 1 rfl trivial ?_
              refine R_retz hc2 rfl rfl (Or.inl rfl) ⟨0, rfl, rfl, .inr ⟨rfl, fun z => z.1 i (by omega) ?_⟩⟩
              (try dsimp only)
              rw [← ex]
              unfold bAD
              omega
  refine R_s (P := True) (f' := (4, [some (vR 20), some (vI n), some (vI 0), some (vI 0), none], [], LAY A F, 0, 0)) hc2 4 rfl trivial ?_
  exact lp (e + 1) 0 _ _ _ rfl rfl (fun j hj => absurd hj (by omega)) (by omega) (by omega)
theorem l_sound1 {A : Nat → List Int} {F : Nat → Int} (hL : LENS A) {e : Nat} (he : e ≤ 6) (hF : F 9 = e) {n : Int} (hN : ∀ j : Nat, j < e → rd (A 30) j = 1 → 0 ≤ rd (A 31) j ∧ rd (A 31) j ≤ 9999) : R 2 (0, L0 2 [vR 29, vI n], [], LAY A F, 0, 0) (fun r G => ∃ c, r = some (vI c) ∧ G = LAY A F ∧ ((c = 1 ∧ sOUND (fun j => rd (A 30) j) (fun j => rd (A 31) j) (fun j => rd (A 32) j) n e) ∨ (c = 0 ∧ ¬ sOUND (fun j => rd (A 30) j) (fun j => rd (A 31) j) (fun j => rd (A 32) j) n e))) := by
  have d0 : (A 30).length = 6 := hL 30 (by decide)
  have d1 : (A 31).length = 6 := hL 31 (by decide)
  have d2 : (A 32).length = 6 := hL 32 (by decide)
  have lp : ∀ (m i : Nat) (x : Int) (s : Int) (fl : Option AV), x = (i : Int) → s = sm (fun j : Nat => if rd (A 30) j = 1 then rd (A 31) j else 0) i → (∀ j, j < i → ¬ bAD ((fun j => rd (A 30) j) j) ((fun j => rd (A 31) j) j) ((fun j => rd (A 32) j) j) n) → i ≤ e → e + 1 ≤ i + m → R 2 (4, [some (vR 29), some (vI n), some (vI s), some (vI x), fl], [], LAY A F, 0, 0) (fun r G => ∃ c, r = some (vI c) ∧ G = LAY A F ∧ ((c = 1 ∧ sOUND (fun j => rd (A 30) j) (fun j => rd (A 31) j) (fun j => rd (A 32) j) n e) ∨ (c = 0 ∧ ¬ sOUND (fun j => rd (A 30) j) (fun j => rd (A 31) j) (fun j => rd (A 32) j) n e))) := by
    intro m
    induction m with
    | zero =>
      intro i x s fl ex es hb hi hm
      exact absurd hm (by omega)
    | succ m ih =>
      intro i x s fl ex es hb hi hm
      have hbd := sm_bd (g := (fun j : Nat => if rd (A 30) j = 1 then rd (A 31) j else 0)) (b := 9999) i (fun j hj => by
        have z := hN j (by omega)
        (try dsimp only)
        split
        · rename_i q
          exact z q
        · omega)
      rw [← es] at hbd
      have hNi := hN i
      rw [← ex] at hNi
      refine R_s (P := True) (f' := (9, [some (vR 29), some (vI n), some (vI s), some (vI x), fl], [vI (F 9), vI x], LAY A F, 0, 0)) hc2 3 rfl trivial ?_
      refine R_ic (t := 104) hc2 rfl rfl (fun (c1 : F 9 ≤ x) => ?_) (fun (c1 : ¬ (F 9 ≤ x)) => ?_)
      · refine R_s (P := True) (f' := (107, [some (vR 29), some (vI n), some (vI s), some (vI x), fl], [vI 12, vI s], LAY A F, 0, 0)) hc2 2 rfl trivial ?_
        refine R_ic (t := 114) hc2 rfl rfl (fun (c2 : 12 < s) => ?_) (fun (c2 : ¬ (12 < s)) => ?_)
        · refine R_s (P := True) (f' := (115, [some (vR 29), some (vI n), some (vI s), some (vI x), fl], [vI 0], LAY A F, 0, 0)) hc2 1 rfl trivial ?_
          refine R_retz hc2 rfl rfl (Or.inl rfl) ⟨0, rfl, rfl, .inr ⟨rfl, fun z => ?_⟩⟩
          have z1 : sm (fun j : Nat => if rd (A 30) j = 1 then rd (A 31) j else 0) e = s := by rw [es, show i = e by omega]
          have z2 := z.2
          rw [z1] at z2
          omega
        · refine R_s (P := True) (f' := (115, [some (vR 29), some (vI n), some (vI s), some (vI x), fl], [vI 1], LAY A F, 0, 0)) hc2 2 rfl trivial ?_
          refine R_retz hc2 rfl rfl (Or.inr rfl) ⟨1, rfl, rfl, .inl ⟨rfl, fun j hj => hb j (by omega), ?_⟩⟩
          have z : sm (fun j : Nat => if rd (A 30) j = 1 then rd (A 31) j else 0) e = s := by rw [es, show i = e by omega]
          rw [z]
          omega
      · refine R_s (P := (0 ≤ x ∧ x < ((A 30).length : Int)) ∧ True) (f' := (19, [some (vR 29), some (vI n), some (vI s), some (vI x), fl], [vI 1, vI (rd (A 30) x)], LAY A F, 0, 0)) hc2 5 rfl ⟨⟨by omega, by omega⟩, trivial⟩ ?_
        refine R_ic (t := 32) hc2 rfl rfl (fun (c3 : rd (A 30) x = 1) => ?_) (fun (c3 : ¬ (rd (A 30) x = 1)) => ?_)
        · refine R_s (P := True) (f' := (41, [some (vR 29), some (vI n), some (vI s), some (vI x), some (vI 1)], [vI 1], LAY A F, 0, 0)) hc2 4 rfl trivial ?_
          refine R_if (t := 56) hc2 rfl rfl (fun (z : 1 = 0) => absurd z (by decide)) (fun (_ : ¬ (1 = 0)) => ?_)
          refine R_s (P := (0 ≤ x ∧ x < ((A 32).length : Int)) ∧ True) (f' := (51, [some (vR 29), some (vI n), some (vI s), some (vI x), some (vI 1)], [vI n, vI (rd (A 32) x)], LAY A F, 0, 0)) hc2 5 rfl ⟨⟨by omega, by omega⟩, trivial⟩ ?_
          refine R_ic (t := 56) hc2 rfl rfl (fun (c5 : rd (A 32) x < n) => ?_) (fun (c5 : ¬ (rd (A 32) x < n)) => ?_)
          · refine R_s (P := (0 ≤ x ∧ x < ((A 30).length : Int)) ∧ True) (f' := (63, [some (vR 29), some (vI n), some (vI s), some (vI x), some (vI 1)], [vI 2, vI (rd (A 30) x)], LAY A F, 0, 0)) hc2 5 rfl ⟨⟨by omega, by omega⟩, trivial⟩ ?_
            refine R_ic (t := 79) hc2 rfl rfl (fun (_ : ¬ rd (A 30) x = 2) => ?_) (fun (z : ¬ (¬ rd (A 30) x = 2)) => absurd (show ¬ rd (A 30) x = 2 by omega) z)
            refine R_s (P := (0 ≤ x ∧ x < ((A 30).length : Int)) ∧ True) (f' := (86, [some (vR 29), some (vI n), some (vI s), some (vI x), some (vI 1)], [vI 1, vI (rd (A 30) x)], LAY A F, 0, 0)) hc2 5 rfl ⟨⟨by omega, by omega⟩, trivial⟩ ?_
            refine R_ic (t := 98) hc2 rfl rfl (fun (z : ¬ rd (A 30) x = 1) => absurd z (by omega)) (fun (_ : ¬ (¬ rd (A 30) x = 1)) => ?_)
            refine R_s (P := (0 ≤ x ∧ x < ((A 31).length : Int)) ∧ inI (s + (rd (A 31) x)) ∧ inI (x + 1) ∧ True) (f' := (4, [some (vR 29), some (vI n), some (vI (s + (rd (A 31) x))), some (vI (x + 1)), some (vI 1)], [], LAY A F, 0, 0)) hc2 9 rfl ⟨⟨by omega, by omega⟩, ⟨by omega, by omega⟩, ⟨by omega, by omega⟩, trivial⟩ ?_
            refine ih (i + 1) _ _ _ (by omega) ?_ (fun j hj => ?_) (by omega) (by omega)
            · simp only [sm]
              rw [← es, ← ex]
              split <;> omega
            · by_cases q : j = i
              · rw [q]
                (try dsimp only)
                rw [← ex]
                unfold bAD
                omega
              · exact hb j (by omega)
          · refine R_s (P := True) (f' := (55, [some (vR 29), some (vI n), some (vI s), some (vI x), some (vI 1)], [vI 0], LAY A F, 0, 0)) hc2 1 rfl trivial ?_
            refine R_retz hc2 rfl rfl (Or.inl rfl) ⟨0, rfl, rfl, .inr ⟨rfl, fun z => z.1 i (by omega) ?_⟩⟩
            (try dsimp only)
            rw [← ex]
            unfold bAD
            omega
        · refine R_s (P := (0 ≤ x ∧ x < ((A 30).length : Int)) ∧ True) (f' := (29, [some (vR 29), some (vI n), some (vI s), some (vI x), fl], [vI 2, vI (rd (A 30) x)], LAY A F, 0, 0)) hc2 5 rfl ⟨⟨by omega, by omega⟩, trivial⟩ ?_
          refine R_ic (t := 36) hc2 rfl rfl (fun (c8 : ¬ rd (A 30) x = 2) => ?_) (fun (c8 : ¬ (¬ rd (A 30) x = 2)) => ?_)
          · refine R_s (P := True) (f' := (41, [some (vR 29), some (vI n), some (vI s), some (vI x), some (vI 0)], [vI 0], LAY A F, 0, 0)) hc2 3 rfl trivial ?_
            refine R_if (t := 56) hc2 rfl rfl (fun (_ : 0 = 0) => ?_) (fun (z : ¬ (0 = 0)) => absurd (by decide) z)
            refine R_s (P := (0 ≤ x ∧ x < ((A 30).length : Int)) ∧ True) (f' := (63, [some (vR 29), some (vI n), some (vI s), some (vI x), some (vI 0)], [vI 2, vI (rd (A 30) x)], LAY A F, 0, 0)) hc2 5 rfl ⟨⟨by omega, by omega⟩, trivial⟩ ?_
            refine R_ic (t := 79) hc2 rfl rfl (fun (_ : ¬ rd (A 30) x = 2) => ?_) (fun (z : ¬ (¬ rd (A 30) x = 2)) => absurd (show ¬ rd (A 30) x = 2 by omega) z)
            refine R_s (P := (0 ≤ x ∧ x < ((A 30).length : Int)) ∧ True) (f' := (86, [some (vR 29), some (vI n), some (vI s), some (vI x), some (vI 0)], [vI 1, vI (rd (A 30) x)], LAY A F, 0, 0)) hc2 5 rfl ⟨⟨by omega, by omega⟩, trivial⟩ ?_
            refine R_ic (t := 98) hc2 rfl rfl (fun (_ : ¬ rd (A 30) x = 1) => ?_) (fun (z : ¬ (¬ rd (A 30) x = 1)) => absurd (show ¬ rd (A 30) x = 1 by omega) z)
            refine R_s (P := inI (x + 1) ∧ True) (f' := (4, [some (vR 29), some (vI n), some (vI s), some (vI (x + 1)), some (vI 0)], [], LAY A F, 0, 0)) hc2 2 rfl ⟨⟨by omega, by omega⟩, trivial⟩ ?_
            refine ih (i + 1) _ _ _ (by omega) ?_ (fun j hj => ?_) (by omega) (by omega)
            · simp only [sm]
              rw [← es, ← ex]
              split <;> omega
            · by_cases q : j = i
              · rw [q]
                (try dsimp only)
                rw [← ex]
                unfold bAD
                omega
              · exact hb j (by omega)
          · refine R_s (P := True) (f' := (41, [some (vR 29), some (vI n), some (vI s), some (vI x), some (vI 1)], [vI 1], LAY A F, 0, 0)) hc2 4 rfl trivial ?_
            refine R_if (t := 56) hc2 rfl rfl (fun (z : 1 = 0) => absurd z (by decide)) (fun (_ : ¬ (1 = 0)) => ?_)
            refine R_s (P := (0 ≤ x ∧ x < ((A 32).length : Int)) ∧ True) (f' := (51, [some (vR 29), some (vI n), some (vI s), some (vI x), some (vI 1)], [vI n, vI (rd (A 32) x)], LAY A F, 0, 0)) hc2 5 rfl ⟨⟨by omega, by omega⟩, trivial⟩ ?_
            refine R_ic (t := 56) hc2 rfl rfl (fun (c13 : rd (A 32) x < n) => ?_) (fun (c13 : ¬ (rd (A 32) x < n)) => ?_)
            · refine R_s (P := (0 ≤ x ∧ x < ((A 30).length : Int)) ∧ True) (f' := (63, [some (vR 29), some (vI n), some (vI s), some (vI x), some (vI 1)], [vI 2, vI (rd (A 30) x)], LAY A F, 0, 0)) hc2 5 rfl ⟨⟨by omega, by omega⟩, trivial⟩ ?_
              refine R_ic (t := 79) hc2 rfl rfl (fun (z : ¬ rd (A 30) x = 2) => absurd z (by omega)) (fun (_ : ¬ (¬ rd (A 30) x = 2)) => ?_)
              refine R_s (P := (0 ≤ x ∧ x < ((A 31).length : Int)) ∧ True) (f' := (74, [some (vR 29), some (vI n), some (vI s), some (vI x), some (vI 1)], [vI 100, vI (rd (A 31) x)], LAY A F, 0, 0)) hc2 5 rfl ⟨⟨by omega, by omega⟩, trivial⟩ ?_
              refine R_ic (t := 79) hc2 rfl rfl (fun (c15 : rd (A 31) x ≤ 100) => ?_) (fun (c15 : ¬ (rd (A 31) x ≤ 100)) => ?_)
              · refine R_s (P := (0 ≤ x ∧ x < ((A 30).length : Int)) ∧ True) (f' := (86, [some (vR 29), some (vI n), some (vI s), some (vI x), some (vI 1)], [vI 1, vI (rd (A 30) x)], LAY A F, 0, 0)) hc2 5 rfl ⟨⟨by omega, by omega⟩, trivial⟩ ?_
                refine R_ic (t := 98) hc2 rfl rfl (fun (_ : ¬ rd (A 30) x = 1) => ?_) (fun (z : ¬ (¬ rd (A 30) x = 1)) => absurd (show ¬ rd (A 30) x = 1 by omega) z)
                refine R_s (P := inI (x + 1) ∧ True) (f' := (4, [some (vR 29), some (vI n), some (vI s), some (vI (x + 1)), some (vI 1)], [], LAY A F, 0, 0)) hc2 2 rfl ⟨⟨by omega, by omega⟩, trivial⟩ ?_
                refine ih (i + 1) _ _ _ (by omega) ?_ (fun j hj => ?_) (by omega) (by omega)
                · simp only [sm]
                  rw [← es, ← ex]
                  split <;> omega
                · by_cases q : j = i
                  · rw [q]
                    (try dsimp only)
                    rw [← ex]
                    unfold bAD
                    omega
                  · exact hb j (by omega)
              · refine R_s (P := True) (f' := (78, [some (vR 29), some (vI n), some (vI s), some (vI x), some (vI 1)], [vI 0], LAY A F, 0, 0)) hc2 1 rfl trivial ?_
                refine R_retz hc2 rfl rfl (Or.inl rfl) ⟨0, rfl, rfl, .inr ⟨rfl, fun z => z.1 i (by omega) ?_⟩⟩
                (try dsimp only)
                rw [← ex]
                unfold bAD
                omega
            · refine R_s (P := True) (f' := (55, [some (vR 29), some (vI n), some (vI s), some (vI x), some (vI 1)], [vI 0], LAY A F, 0, 0)) hc2 1 rfl trivial ?_
              refine R_retz hc2 rfl rfl (Or.inl rfl) ⟨0, rfl, rfl, .inr ⟨rfl, fun z => z.1 i (by omega) ?_⟩⟩
              (try dsimp only)
              rw [← ex]
              unfold bAD
              omega
  refine R_s (P := True) (f' := (4, [some (vR 29), some (vI n), some (vI 0), some (vI 0), none], [], LAY A F, 0, 0)) hc2 4 rfl trivial ?_
  exact lp (e + 1) 0 _ _ _ rfl rfl (fun j hj => absurd hj (by omega)) (by omega) (by omega)
