/-- what an end brings to a house -/
def pO (Q : Nat → List Int) (l : List Int) (h : Int) (i : Nat) : Int := if (rd (Q 0) i = 0 ∨ rd (Q 0) i = 3) ∧ rd (Q 3) i = h then rd l i else 0
theorem gH_eq {A : Nat → List Int} {F : Nat → Int} {d : Nat} {l : List Int} {h : Int} (hv : ∀ i : Nat, i < (F (d + 8)).toNat → rd l i = gE A F d i) : sm (pO (N_Q A (21 + 9 * d)) l h) (F (d + 8)).toNat = gH A F d h :=
  sm_congr _ (fun i hi => by
    unfold pO gHi
    rw [hv i hi])
theorem SPL_g {A : Nat → List Int} {F : Nat → Int} {d : Nat} {so te tp : Nat → Int} {mg pm lo : Int} (hS : SPL A F (N_al A F) (N_Q A (21 + 9 * d)) (F (d + 8)).toNat (N_Y A F d) so te tp mg pm lo) : (∀ p, tp p = gP A F d p) ∧ ∀ i, te i = gE A F d i := by
  obtain ⟨s1, s2, s3, s4, s5, s6⟩ := hS
  subst s1
  subst s2
  subst s3
  subst s4
  subst s5
  subst s6
  exact ⟨fun _ => rfl, fun _ => rfl⟩

theorem l_payOut0 {A : Nat → List Int} {F : Nat → Int} {n : Nat} (hL : LENS A) (hn : (n : Int) = F 3) (hn30 : n ≤ 30) {Q : Nat → List Int} {e : Nat} (hQ : QOK n Q e) (hF : F 8 = e) (q0 : A 21 = Q 0) (q3 : A 24 = Q 3) (b84 : ∀ p : Nat, p < 30 → -1000000000000000 ≤ rd (A 84) p ∧ rd (A 84) p ≤ 1000000000000000) (b85 : ∀ h : Nat, h < 8 → -1000000000000000 ≤ rd (A 85) h ∧ rd (A 85) h ≤ 1000000000000000) (b77 : ∀ p : Nat, p < n → 0 ≤ rd (A 77) p ∧ rd (A 77) p ≤ 1000000) (b76 : ∀ i : Nat, i < e → -20000000 ≤ rd (A 76) i ∧ rd (A 76) i ≤ 20000000) : R 102 (0, L0 102 [vR 1, vR 20], [], LAY A F, 0, 0) (fun r G => r = none ∧ ∃ l84 l85, G = LAY (u (u A 84 l84) 85 l85) F ∧ l84.length = 30 ∧ l85.length = 8 ∧ (∀ p : Nat, p < 30 → rd l84 p = rd (A 84) p + if p < n then rd (A 77) p else 0) ∧ ∀ h : Nat, h < 8 → rd l85 h = rd (A 85) h + sm (pO Q (A 76) h) e) := by
  have h76 : (A 76).length = 6 := hL 76 (by decide)
  have h77 : (A 77).length = 30 := hL 77 (by decide)
  have h84 : (A 84).length = 30 := hL 84 (by decide)
  have h85 : (A 85).length = 8 := hL 85 (by decide)
  have d0 : (A 21).length = 6 := hL 21 (by decide)
  have d3 : (A 24).length = 6 := hL 24 (by decide)
  have he1 := hQ.1
  have he2 := hQ.2.1
  have lp : ∀ (m i : Nat) (x : Int) (l : List Int), x = (i : Int) → l.length = 30 → (∀ p : Nat, p < 30 → rd l p = rd (A 84) p + if p < i then rd (A 77) p else 0) → i ≤ n → n + 1 ≤ i + m → R 102 (2, [some (vR 1), some (vR 20), some (vI x)], [], LAY (u A 84 l) F, 0, 0) (fun r G => r = none ∧ ∃ l84 l85, G = LAY (u (u A 84 l84) 85 l85) F ∧ l84.length = 30 ∧ l85.length = 8 ∧ (∀ p : Nat, p < 30 → rd l84 p = rd (A 84) p + if p < n then rd (A 77) p else 0) ∧ ∀ h : Nat, h < 8 → rd l85 h = rd (A 85) h + sm (pO Q (A 76) h) e) := by
    intro m
    induction m with
    | zero =>
      intro i x l ex hl hz hi hm
      exact absurd hm (by omega)
    | succ m ih =>
      intro i x l ex hl hz hi hm
      have g77 := b77 i
      have g84 := b84 i
      have gz : i < 30 → rd l i = rd (A 84) i := fun q => by rw [hz i q, if_neg (by omega), Int.add_zero]
      rw [← ex] at g77 g84 gz
      refine R_s (P := True) (f' := (10, [some (vR 1), some (vR 20), some (vI x)], [vI (F 3), vI x], LAY (u A 84 l) F, 0, 0)) hc102 4 rfl trivial ?_
      refine R_ic (t := 38) hc102 rfl rfl (fun (c1 : F 3 ≤ x) => ?_) (fun (c1 : ¬ (F 3 ≤ x)) => ?_)
      · refine R_s (P := True) (f' := (40, [some (vR 1), some (vR 20), some (vI 0)], [], LAY (u A 84 l) F, 0, 0)) hc102 2 rfl trivial ?_
        have lp2 : ∀ (mj j : Nat) (y : Int) (m : List Int), y = (j : Int) → m.length = 8 → (∀ h : Nat, h < 8 → rd m h = rd (A 85) h + sm (pO Q (A 76) h) j) → j ≤ e → e + 1 ≤ j + mj → R 102 (40, [some (vR 1), some (vR 20), some (vI y)], [], LAY (u (u A 84 l) 85 m) F, 0, 0) (fun r G => r = none ∧ ∃ l84 l85, G = LAY (u (u A 84 l84) 85 l85) F ∧ l84.length = 30 ∧ l85.length = 8 ∧ (∀ p : Nat, p < 30 → rd l84 p = rd (A 84) p + if p < n then rd (A 77) p else 0) ∧ ∀ h : Nat, h < 8 → rd l85 h = rd (A 85) h + sm (pO Q (A 76) h) e) := by
          intro mj
          induction mj with
          | zero =>
            intro j y m ey hm1 hy hj hmj
            exact absurd hmj (by omega)
          | succ mj ihj =>
            intro j y m ey hm1 hy hj hmj
            have k0 : rd (A 21) y = rd (Q 0) j := by rw [q0, ey]
            have k3 : rd (A 24) y = rd (Q 3) j := by rw [q3, ey]
            have hk1 : j < e → rd (Q 0) j = 0 ∨ rd (Q 0) j = 3 → 0 ≤ rd (Q 3) j ∧ rd (Q 3) j < 8 := fun q q1 => (hQ.2.2.2 j q).2.2.2.2.2.1 q1
            have g76 := b76 j
            rw [← ey] at g76
            have gm : 0 ≤ rd (Q 3) j → rd (Q 3) j < 8 → -1000000200000000 ≤ rd m (rd (Q 3) j) ∧ rd m (rd (Q 3) j) ≤ 1000000200000000 := fun q1 q2 => by
              have z := hy (rd (Q 3) j).toNat (by omega)
              have z1 := b85 (rd (Q 3) j).toNat (by omega)
              rw [show (((rd (Q 3) j).toNat : Nat) : Int) = rd (Q 3) j by omega] at z z1
              have z2 := sm_bd2 (g := pO Q (A 76) (rd (Q 3) j)) (b := 20000000) j (fun q hq => by
                have z3 := b76 q (by omega)
                unfold pO
                split <;> omega)
              omega
            refine R_s (P := True) (f' := (45, [some (vR 1), some (vR 20), some (vI y)], [vI (F 8), vI y], LAY (u (u A 84 l) 85 m) F, 0, 0)) hc102 3 rfl trivial ?_
            refine R_ic (t := 97) hc102 rfl rfl (fun (c1 : F 8 ≤ y) => ?_) (fun (c1 : ¬ (F 8 ≤ y)) => ?_)
            · exact R_retv hc102 rfl rfl ⟨rfl, l, m, rfl, hl, hm1, fun p hp => by rw [hz p hp, show i = n by omega], fun h hh => by rw [hy h hh, show j = e by omega]⟩
            · refine R_s (P := (0 ≤ y ∧ y < ((A 21).length : Int)) ∧ True) (f' := (54, [some (vR 1), some (vR 20), some (vI y)], [vI (rd (A 21) y)], LAY (u (u A 84 l) 85 m) F, 0, 0)) hc102 4 rfl ⟨⟨by omega, by omega⟩, trivial⟩ ?_
              refine R_if (t := 67) hc102 rfl rfl (fun (c2 : rd (A 21) y = 0) => ?_) (fun (c2 : ¬ (rd (A 21) y = 0)) => ?_)
              · refine R_s (P := (0 ≤ y ∧ y < ((A 24).length : Int)) ∧ (0 ≤ rd (A 24) y ∧ rd (A 24) y < ((m).length : Int)) ∧ (0 ≤ y ∧ y < ((A 76).length : Int)) ∧ inL ((rd m (rd (A 24) y)) + (rd (A 76) y)) ∧ (0 ≤ rd (A 24) y ∧ rd (A 24) y < ((m).length : Int)) ∧ inI (y + 1) ∧ True) (f' := (40, [some (vR 1), some (vR 20), some (vI (y + 1))], [], LAY (u (u A 84 l) 85 (wr m (rd (A 24) y) ((rd m (rd (A 24) y)) + (rd (A 76) y)))) F, 0, 0)) hc102 18 rfl ⟨⟨by omega, by omega⟩, (by have z1 := hk1 (by omega) (by omega); omega), ⟨by omega, by omega⟩, (by rw [k3]; have z1 := hk1 (by omega) (by omega); have z2 := gm z1.1 z1.2; have z3 := g76 (by omega); unfold inL; omega), (by have z1 := hk1 (by omega) (by omega); omega), ⟨by omega, by omega⟩, trivial⟩ ?_
                have a0 : rd (Q 0) j = 0 ∨ rd (Q 0) j = 3 := by omega
                have a3 := hk1 (by omega) a0
                refine ihj (j + 1) _ _ (by omega) (by rw [wr_len]; exact hm1) (fun h hh => ?_) (by omega) (by omega)
                rw [k3, rd_wr (by omega) (by omega) (by omega)]
                simp only [sm]
                by_cases e9 : (h : Int) = rd (Q 3) j
                · rw [if_pos e9, show pO Q (A 76) h j = rd (A 76) j by (unfold pO; rw [if_pos ⟨a0, e9.symm⟩]), ← e9, hy h hh, ey]
                  omega
                · rw [if_neg e9, show pO Q (A 76) h j = 0 by (unfold pO; rw [if_neg (fun z => e9 z.2.symm)]), hy h hh]
                  omega
              · refine R_s (P := (0 ≤ y ∧ y < ((A 21).length : Int)) ∧ True) (f' := (64, [some (vR 1), some (vR 20), some (vI y)], [vI 3, vI (rd (A 21) y)], LAY (u (u A 84 l) 85 m) F, 0, 0)) hc102 5 rfl ⟨⟨by omega, by omega⟩, trivial⟩ ?_
                refine R_ic (t := 91) hc102 rfl rfl (fun (c3 : ¬ rd (A 21) y = 3) => ?_) (fun (c3 : ¬ (¬ rd (A 21) y = 3)) => ?_)
                · refine R_s (P := inI (y + 1) ∧ True) (f' := (40, [some (vR 1), some (vR 20), some (vI (y + 1))], [], LAY (u (u A 84 l) 85 m) F, 0, 0)) hc102 2 rfl ⟨⟨by omega, by omega⟩, trivial⟩ ?_
                  refine ihj (j + 1) _ _ (by omega) hm1 (fun h hh => ?_) (by omega) (by omega)
                  simp only [sm]
                  rw [show pO Q (A 76) h j = 0 by (unfold pO; rw [if_neg (fun z => by omega)]), hy h hh]
                  omega
                · refine R_s (P := (0 ≤ y ∧ y < ((A 24).length : Int)) ∧ (0 ≤ rd (A 24) y ∧ rd (A 24) y < ((m).length : Int)) ∧ (0 ≤ y ∧ y < ((A 76).length : Int)) ∧ inL ((rd m (rd (A 24) y)) + (rd (A 76) y)) ∧ (0 ≤ rd (A 24) y ∧ rd (A 24) y < ((m).length : Int)) ∧ inI (y + 1) ∧ True) (f' := (40, [some (vR 1), some (vR 20), some (vI (y + 1))], [], LAY (u (u A 84 l) 85 (wr m (rd (A 24) y) ((rd m (rd (A 24) y)) + (rd (A 76) y)))) F, 0, 0)) hc102 18 rfl ⟨⟨by omega, by omega⟩, (by have z1 := hk1 (by omega) (by omega); omega), ⟨by omega, by omega⟩, (by rw [k3]; have z1 := hk1 (by omega) (by omega); have z2 := gm z1.1 z1.2; have z3 := g76 (by omega); unfold inL; omega), (by have z1 := hk1 (by omega) (by omega); omega), ⟨by omega, by omega⟩, trivial⟩ ?_
                  have a0 : rd (Q 0) j = 0 ∨ rd (Q 0) j = 3 := by omega
                  have a3 := hk1 (by omega) a0
                  refine ihj (j + 1) _ _ (by omega) (by rw [wr_len]; exact hm1) (fun h hh => ?_) (by omega) (by omega)
                  rw [k3, rd_wr (by omega) (by omega) (by omega)]
                  simp only [sm]
                  by_cases e9 : (h : Int) = rd (Q 3) j
                  · rw [if_pos e9, show pO Q (A 76) h j = rd (A 76) j by (unfold pO; rw [if_pos ⟨a0, e9.symm⟩]), ← e9, hy h hh, ey]
                    omega
                  · rw [if_neg e9, show pO Q (A 76) h j = 0 by (unfold pO; rw [if_neg (fun z => e9 z.2.symm)]), hy h hh]
                    omega
        refine R_s (P := True) (f' := (40, [some (vR 1), some (vR 20), some (vI 0)], [], LAY (u (u A 84 l) 85 (A 85)) F, 0, 0)) hc102 0 rfl trivial ?_
        exact lp2 (e + 1) 0 _ _ rfl h85 (fun h hh => by simp only [sm]; omega) (by omega) (by omega)
      · refine R_s (P := (0 ≤ x ∧ x < ((l).length : Int)) ∧ (0 ≤ x ∧ x < ((A 77).length : Int)) ∧ inL ((rd l x) + (rd (A 77) x)) ∧ (0 ≤ x ∧ x < ((l).length : Int)) ∧ inI (x + 1) ∧ True) (f' := (2, [some (vR 1), some (vR 20), some (vI (x + 1))], [], LAY (u A 84 (wr l x ((rd l x) + (rd (A 77) x)))) F, 0, 0)) hc102 15 rfl ⟨⟨by omega, by omega⟩, ⟨by omega, by omega⟩, ⟨by omega, by omega⟩, ⟨by omega, by omega⟩, ⟨by omega, by omega⟩, trivial⟩ ?_
        have g1 := gz (by omega)
        refine ih (i + 1) _ _ (by omega) (by rw [wr_len]; exact hl) (fun p hp => ?_) (by omega) (by omega)
        rw [rd_wr (by omega) (by omega) (by omega)]
        by_cases e9 : (p : Int) = x
        · rw [if_pos e9, g1, e9, if_pos (by omega)]
        · rw [if_neg e9, hz p hp]
          by_cases e3 : p < i
          · rw [if_pos e3, if_pos (by omega)]
          · rw [if_neg e3, if_neg (by omega)]
  refine R_s (P := True) (f' := (0, [some (vR 1), some (vR 20), none], [], LAY (u A 84 (A 84)) F, 0, 0)) hc102 0 (by rw [u_self]; rfl) trivial ?_
  refine R_s (P := True) (f' := (2, [some (vR 1), some (vR 20), some (vI 0)], [], LAY (u A 84 (A 84)) F, 0, 0)) hc102 2 rfl trivial ?_
  exact lp (n + 1) 0 _ _ rfl h84 (fun p hp => by rw [if_neg (by omega), Int.add_zero]) (by omega) (by omega)

theorem l_payOut1 {A : Nat → List Int} {F : Nat → Int} {n : Nat} (hL : LENS A) (hn : (n : Int) = F 3) (hn30 : n ≤ 30) {Q : Nat → List Int} {e : Nat} (hQ : QOK n Q e) (hF : F 9 = e) (q0 : A 30 = Q 0) (q3 : A 33 = Q 3) (b84 : ∀ p : Nat, p < 30 → -1000000000000000 ≤ rd (A 84) p ∧ rd (A 84) p ≤ 1000000000000000) (b85 : ∀ h : Nat, h < 8 → -1000000000000000 ≤ rd (A 85) h ∧ rd (A 85) h ≤ 1000000000000000) (b77 : ∀ p : Nat, p < n → 0 ≤ rd (A 77) p ∧ rd (A 77) p ≤ 1000000) (b76 : ∀ i : Nat, i < e → -20000000 ≤ rd (A 76) i ∧ rd (A 76) i ≤ 20000000) : R 102 (0, L0 102 [vR 1, vR 29], [], LAY A F, 0, 0) (fun r G => r = none ∧ ∃ l84 l85, G = LAY (u (u A 84 l84) 85 l85) F ∧ l84.length = 30 ∧ l85.length = 8 ∧ (∀ p : Nat, p < 30 → rd l84 p = rd (A 84) p + if p < n then rd (A 77) p else 0) ∧ ∀ h : Nat, h < 8 → rd l85 h = rd (A 85) h + sm (pO Q (A 76) h) e) := by
  have h76 : (A 76).length = 6 := hL 76 (by decide)
  have h77 : (A 77).length = 30 := hL 77 (by decide)
  have h84 : (A 84).length = 30 := hL 84 (by decide)
  have h85 : (A 85).length = 8 := hL 85 (by decide)
  have d0 : (A 30).length = 6 := hL 30 (by decide)
  have d3 : (A 33).length = 6 := hL 33 (by decide)
  have he1 := hQ.1
  have he2 := hQ.2.1
  have lp : ∀ (m i : Nat) (x : Int) (l : List Int), x = (i : Int) → l.length = 30 → (∀ p : Nat, p < 30 → rd l p = rd (A 84) p + if p < i then rd (A 77) p else 0) → i ≤ n → n + 1 ≤ i + m → R 102 (2, [some (vR 1), some (vR 29), some (vI x)], [], LAY (u A 84 l) F, 0, 0) (fun r G => r = none ∧ ∃ l84 l85, G = LAY (u (u A 84 l84) 85 l85) F ∧ l84.length = 30 ∧ l85.length = 8 ∧ (∀ p : Nat, p < 30 → rd l84 p = rd (A 84) p + if p < n then rd (A 77) p else 0) ∧ ∀ h : Nat, h < 8 → rd l85 h = rd (A 85) h + sm (pO Q (A 76) h) e) := by
    intro m
    induction m with
    | zero =>
      intro i x l ex hl hz hi hm
      exact absurd hm (by omega)
    | succ m ih =>
      intro i x l ex hl hz hi hm
      have g77 := b77 i
      have g84 := b84 i
      have gz : i < 30 → rd l i = rd (A 84) i := fun q => by rw [hz i q, if_neg (by omega), Int.add_zero]
      rw [← ex] at g77 g84 gz
      refine R_s (P := True) (f' := (10, [some (vR 1), some (vR 29), some (vI x)], [vI (F 3), vI x], LAY (u A 84 l) F, 0, 0)) hc102 4 rfl trivial ?_
      refine R_ic (t := 38) hc102 rfl rfl (fun (c1 : F 3 ≤ x) => ?_) (fun (c1 : ¬ (F 3 ≤ x)) => ?_)
      · refine R_s (P := True) (f' := (40, [some (vR 1), some (vR 29), some (vI 0)], [], LAY (u A 84 l) F, 0, 0)) hc102 2 rfl trivial ?_
        have lp2 : ∀ (mj j : Nat) (y : Int) (m : List Int), y = (j : Int) → m.length = 8 → (∀ h : Nat, h < 8 → rd m h = rd (A 85) h + sm (pO Q (A 76) h) j) → j ≤ e → e + 1 ≤ j + mj → R 102 (40, [some (vR 1), some (vR 29), some (vI y)], [], LAY (u (u A 84 l) 85 m) F, 0, 0) (fun r G => r = none ∧ ∃ l84 l85, G = LAY (u (u A 84 l84) 85 l85) F ∧ l84.length = 30 ∧ l85.length = 8 ∧ (∀ p : Nat, p < 30 → rd l84 p = rd (A 84) p + if p < n then rd (A 77) p else 0) ∧ ∀ h : Nat, h < 8 → rd l85 h = rd (A 85) h + sm (pO Q (A 76) h) e) := by
          intro mj
          induction mj with
          | zero =>
            intro j y m ey hm1 hy hj hmj
            exact absurd hmj (by omega)
          | succ mj ihj =>
            intro j y m ey hm1 hy hj hmj
            have k0 : rd (A 30) y = rd (Q 0) j := by rw [q0, ey]
            have k3 : rd (A 33) y = rd (Q 3) j := by rw [q3, ey]
            have hk1 : j < e → rd (Q 0) j = 0 ∨ rd (Q 0) j = 3 → 0 ≤ rd (Q 3) j ∧ rd (Q 3) j < 8 := fun q q1 => (hQ.2.2.2 j q).2.2.2.2.2.1 q1
            have g76 := b76 j
            rw [← ey] at g76
            have gm : 0 ≤ rd (Q 3) j → rd (Q 3) j < 8 → -1000000200000000 ≤ rd m (rd (Q 3) j) ∧ rd m (rd (Q 3) j) ≤ 1000000200000000 := fun q1 q2 => by
              have z := hy (rd (Q 3) j).toNat (by omega)
              have z1 := b85 (rd (Q 3) j).toNat (by omega)
              rw [show (((rd (Q 3) j).toNat : Nat) : Int) = rd (Q 3) j by omega] at z z1
              have z2 := sm_bd2 (g := pO Q (A 76) (rd (Q 3) j)) (b := 20000000) j (fun q hq => by
                have z3 := b76 q (by omega)
                unfold pO
                split <;> omega)
              omega
            refine R_s (P := True) (f' := (45, [some (vR 1), some (vR 29), some (vI y)], [vI (F 9), vI y], LAY (u (u A 84 l) 85 m) F, 0, 0)) hc102 3 rfl trivial ?_
            refine R_ic (t := 97) hc102 rfl rfl (fun (c1 : F 9 ≤ y) => ?_) (fun (c1 : ¬ (F 9 ≤ y)) => ?_)
            · exact R_retv hc102 rfl rfl ⟨rfl, l, m, rfl, hl, hm1, fun p hp => by rw [hz p hp, show i = n by omega], fun h hh => by rw [hy h hh, show j = e by omega]⟩
            · refine R_s (P := (0 ≤ y ∧ y < ((A 30).length : Int)) ∧ True) (f' := (54, [some (vR 1), some (vR 29), some (vI y)], [vI (rd (A 30) y)], LAY (u (u A 84 l) 85 m) F, 0, 0)) hc102 4 rfl ⟨⟨by omega, by omega⟩, trivial⟩ ?_
              refine R_if (t := 67) hc102 rfl rfl (fun (c2 : rd (A 30) y = 0) => ?_) (fun (c2 : ¬ (rd (A 30) y = 0)) => ?_)
              · refine R_s (P := (0 ≤ y ∧ y < ((A 33).length : Int)) ∧ (0 ≤ rd (A 33) y ∧ rd (A 33) y < ((m).length : Int)) ∧ (0 ≤ y ∧ y < ((A 76).length : Int)) ∧ inL ((rd m (rd (A 33) y)) + (rd (A 76) y)) ∧ (0 ≤ rd (A 33) y ∧ rd (A 33) y < ((m).length : Int)) ∧ inI (y + 1) ∧ True) (f' := (40, [some (vR 1), some (vR 29), some (vI (y + 1))], [], LAY (u (u A 84 l) 85 (wr m (rd (A 33) y) ((rd m (rd (A 33) y)) + (rd (A 76) y)))) F, 0, 0)) hc102 18 rfl ⟨⟨by omega, by omega⟩, (by have z1 := hk1 (by omega) (by omega); omega), ⟨by omega, by omega⟩, (by rw [k3]; have z1 := hk1 (by omega) (by omega); have z2 := gm z1.1 z1.2; have z3 := g76 (by omega); unfold inL; omega), (by have z1 := hk1 (by omega) (by omega); omega), ⟨by omega, by omega⟩, trivial⟩ ?_
                have a0 : rd (Q 0) j = 0 ∨ rd (Q 0) j = 3 := by omega
                have a3 := hk1 (by omega) a0
                refine ihj (j + 1) _ _ (by omega) (by rw [wr_len]; exact hm1) (fun h hh => ?_) (by omega) (by omega)
                rw [k3, rd_wr (by omega) (by omega) (by omega)]
                simp only [sm]
                by_cases e9 : (h : Int) = rd (Q 3) j
                · rw [if_pos e9, show pO Q (A 76) h j = rd (A 76) j by (unfold pO; rw [if_pos ⟨a0, e9.symm⟩]), ← e9, hy h hh, ey]
                  omega
                · rw [if_neg e9, show pO Q (A 76) h j = 0 by (unfold pO; rw [if_neg (fun z => e9 z.2.symm)]), hy h hh]
                  omega
              · refine R_s (P := (0 ≤ y ∧ y < ((A 30).length : Int)) ∧ True) (f' := (64, [some (vR 1), some (vR 29), some (vI y)], [vI 3, vI (rd (A 30) y)], LAY (u (u A 84 l) 85 m) F, 0, 0)) hc102 5 rfl ⟨⟨by omega, by omega⟩, trivial⟩ ?_
                refine R_ic (t := 91) hc102 rfl rfl (fun (c3 : ¬ rd (A 30) y = 3) => ?_) (fun (c3 : ¬ (¬ rd (A 30) y = 3)) => ?_)
                · refine R_s (P := inI (y + 1) ∧ True) (f' := (40, [some (vR 1), some (vR 29), some (vI (y + 1))], [], LAY (u (u A 84 l) 85 m) F, 0, 0)) hc102 2 rfl ⟨⟨by omega, by omega⟩, trivial⟩ ?_
                  refine ihj (j + 1) _ _ (by omega) hm1 (fun h hh => ?_) (by omega) (by omega)
                  simp only [sm]
                  rw [show pO Q (A 76) h j = 0 by (unfold pO; rw [if_neg (fun z => by omega)]), hy h hh]
                  omega
                · refine R_s (P := (0 ≤ y ∧ y < ((A 33).length : Int)) ∧ (0 ≤ rd (A 33) y ∧ rd (A 33) y < ((m).length : Int)) ∧ (0 ≤ y ∧ y < ((A 76).length : Int)) ∧ inL ((rd m (rd (A 33) y)) + (rd (A 76) y)) ∧ (0 ≤ rd (A 33) y ∧ rd (A 33) y < ((m).length : Int)) ∧ inI (y + 1) ∧ True) (f' := (40, [some (vR 1), some (vR 29), some (vI (y + 1))], [], LAY (u (u A 84 l) 85 (wr m (rd (A 33) y) ((rd m (rd (A 33) y)) + (rd (A 76) y)))) F, 0, 0)) hc102 18 rfl ⟨⟨by omega, by omega⟩, (by have z1 := hk1 (by omega) (by omega); omega), ⟨by omega, by omega⟩, (by rw [k3]; have z1 := hk1 (by omega) (by omega); have z2 := gm z1.1 z1.2; have z3 := g76 (by omega); unfold inL; omega), (by have z1 := hk1 (by omega) (by omega); omega), ⟨by omega, by omega⟩, trivial⟩ ?_
                  have a0 : rd (Q 0) j = 0 ∨ rd (Q 0) j = 3 := by omega
                  have a3 := hk1 (by omega) a0
                  refine ihj (j + 1) _ _ (by omega) (by rw [wr_len]; exact hm1) (fun h hh => ?_) (by omega) (by omega)
                  rw [k3, rd_wr (by omega) (by omega) (by omega)]
                  simp only [sm]
                  by_cases e9 : (h : Int) = rd (Q 3) j
                  · rw [if_pos e9, show pO Q (A 76) h j = rd (A 76) j by (unfold pO; rw [if_pos ⟨a0, e9.symm⟩]), ← e9, hy h hh, ey]
                    omega
                  · rw [if_neg e9, show pO Q (A 76) h j = 0 by (unfold pO; rw [if_neg (fun z => e9 z.2.symm)]), hy h hh]
                    omega
        refine R_s (P := True) (f' := (40, [some (vR 1), some (vR 29), some (vI 0)], [], LAY (u (u A 84 l) 85 (A 85)) F, 0, 0)) hc102 0 rfl trivial ?_
        exact lp2 (e + 1) 0 _ _ rfl h85 (fun h hh => by simp only [sm]; omega) (by omega) (by omega)
      · refine R_s (P := (0 ≤ x ∧ x < ((l).length : Int)) ∧ (0 ≤ x ∧ x < ((A 77).length : Int)) ∧ inL ((rd l x) + (rd (A 77) x)) ∧ (0 ≤ x ∧ x < ((l).length : Int)) ∧ inI (x + 1) ∧ True) (f' := (2, [some (vR 1), some (vR 29), some (vI (x + 1))], [], LAY (u A 84 (wr l x ((rd l x) + (rd (A 77) x)))) F, 0, 0)) hc102 15 rfl ⟨⟨by omega, by omega⟩, ⟨by omega, by omega⟩, ⟨by omega, by omega⟩, ⟨by omega, by omega⟩, ⟨by omega, by omega⟩, trivial⟩ ?_
        have g1 := gz (by omega)
        refine ih (i + 1) _ _ (by omega) (by rw [wr_len]; exact hl) (fun p hp => ?_) (by omega) (by omega)
        rw [rd_wr (by omega) (by omega) (by omega)]
        by_cases e9 : (p : Int) = x
        · rw [if_pos e9, g1, e9, if_pos (by omega)]
        · rw [if_neg e9, hz p hp]
          by_cases e3 : p < i
          · rw [if_pos e3, if_pos (by omega)]
          · rw [if_neg e3, if_neg (by omega)]
  refine R_s (P := True) (f' := (0, [some (vR 1), some (vR 29), none], [], LAY (u A 84 (A 84)) F, 0, 0)) hc102 0 (by rw [u_self]; rfl) trivial ?_
  refine R_s (P := True) (f' := (2, [some (vR 1), some (vR 29), some (vI 0)], [], LAY (u A 84 (A 84)) F, 0, 0)) hc102 2 rfl trivial ?_
  exact lp (n + 1) 0 _ _ rfl h84 (fun p hp => by rw [if_neg (by omega), Int.add_zero]) (by omega) (by omega)

theorem LENS_run {A : Nat → List Int} (hL : LENS A) {l8 l9 l10 l11 l75 l76 l77 l78 l84 l85 : List Int} (hl8 : l8.length = 30) (hl9 : l9.length = 30) (hl10 : l10.length = 30) (hl11 : l11.length = 30) (hl75 : l75.length = 6) (hl76 : l76.length = 6) (hl77 : l77.length = 30) (hl78 : l78.length = 30) (hl84 : l84.length = 30) (hl85 : l85.length = 8) : LENS (u (u (u (u (u (u (u (u (u (u (shA A) 8 l8) 9 l9) 10 l10) 11 l11) 75 l75) 76 l76) 77 l77) 78 l78) 84 l84) 85 l85) := by
  exact (LENS_u (LENS_u (LENS_u (LENS_u (LENS_u (LENS_u (LENS_u (LENS_u (LENS_u (LENS_u (LENS_sh hL) (by show l8.length = (A 8).length; rw [hl8, hL 8 (by decide)]; rfl)) (by show l9.length = (A 9).length; rw [hl9, hL 9 (by decide)]; rfl)) (by show l10.length = (A 10).length; rw [hl10, hL 10 (by decide)]; rfl)) (by show l11.length = (A 11).length; rw [hl11, hL 11 (by decide)]; rfl)) (by show l75.length = (A 75).length; rw [hl75, hL 75 (by decide)]; rfl)) (by show l76.length = (A 76).length; rw [hl76, hL 76 (by decide)]; rfl)) (by show l77.length = (A 77).length; rw [hl77, hL 77 (by decide)]; rfl)) (by show l78.length = (A 78).length; rw [hl78, hL 78 (by decide)]; rfl)) (by show l84.length = (A 84).length; rw [hl84, hL 84 (by decide)]; rfl)) (by show l85.length = (A 85).length; rw [hl85, hL 85 (by decide)]; rfl))

theorem l_goBy {c : Int} {A : Nat → List Int} {F : Nat → Int} (hR : REL c A F) (hF2 : F 0 ≤ 2) {l8 l9 l10 l11 l75 l76 l77 l78 l84 l85 : List Int} (hl8 : l8.length = 30) (hl9 : l9.length = 30) (hl10 : l10.length = 30) (hl11 : l11.length = 30) (hl75 : l75.length = 6) (hl76 : l76.length = 6) (hl77 : l77.length = 30) (hl78 : l78.length = 30) (hl84 : l84.length = 30) (hl85 : l85.length = 8) {y v14 v15 : Int} (h0 : F 2 ≤ y) (h1 : y ≤ 600) (b84 : ∀ p : Nat, p < 30 → -900000000000000 ≤ rd l84 p ∧ rd l84 p ≤ 900000000000000) (b85 : ∀ h : Nat, h < 8 → -900000000000000 ≤ rd l85 h ∧ rd l85 h ≤ 900000000000000) : R 101 (0, L0 101 [vR 1], [], LAY (u (u (u (u (u (u (u (u (u (u (shA A) 8 l8) 9 l9) 10 l10) 11 l11) 75 l75) 76 l76) 77 l77) 78 l78) 84 l84) 85 l85) (u (u (u (shF F) 2 y) 14 v14) 15 v15), 0, 0) (fun r G => r = none ∧ ∃ n8 n9 n10 n11 n75 n76 n77 n78 n84 n85 w14 w15, G = LAY (u (u (u (u (u (u (u (u (u (u (shA A) 8 n8) 9 n9) 10 n10) 11 n11) 75 n75) 76 n76) 77 n77) 78 n78) 84 n84) 85 n85) (u (u (u (shF F) 2 (y + 1)) 14 w14) 15 w15) ∧ n8.length = 30 ∧ n9.length = 30 ∧ n10.length = 30 ∧ n11.length = 30 ∧ n75.length = 6 ∧ n76.length = 6 ∧ n77.length = 30 ∧ n78.length = 30 ∧ n84.length = 30 ∧ n85.length = 8 ∧ (∀ p : Nat, p < 30 → rd n84 p = rd l84 p + if p < (F 3).toNat then yP A F y (F 0).toNat p else 0) ∧ ∀ h : Nat, h < 8 → rd n85 h = rd l85 h + yH A F y (F 0).toNat h) := by
  have hL := hR.1
  have hRy := REL_y hR h0 h1
  have hn := R_n hR
  have hn30 := R_n30 hR
  have hTH := hR.2.2.1
  have hdc := hR.2.2.2.2.1.1
  have hNO := hR.2.2.2.2.2.2.1
  refine R_s (P := True) (f' := (9, [some (vR 1), none, none], [vI (-1), vI y, vR 2], LAY (u (u (u (u (u (u (u (u (u (u (shA A) 8 l8) 9 l9) 10 l10) 11 l11) 75 l75) 76 l76) 77 l77) 78 l78) 84 l84) 85 l85) (u (u (u (shF F) 2 y) 14 v14) 15 v15), 0, 0)) hc101 5 rfl trivial ?_
  refine R_cv hc101 rfl rfl (l_wakeT (A := (u (u (u (u (u (u (u (u (u (u (shA A) 8 l8) 9 l9) 10 l10) 11 l11) 75 l75) 76 l76) 77 l77) 78 l78) 84 l84) 85 l85)) (F := (u (u (u (shF F) 2 y) 14 v14) 15 v15)) (yr := y) (al := N_al A (u F 2 y)) (LENS_run hL hl8 hl9 hl10 hl11 hl75 hl76 hl77 hl78 hl84 hl85) hn hn30 (R_TR (A := A) hR) (R_U (A := A) hR) (R_T (A := A) hR) (fun p _ => rfl)) (fun r G9 hp9 => ?_)
  obtain ⟨rfl, m8, m9, m10, rfl, hm8, hm9, hm10, hw⟩ := hp9
  refine R_s (f' := (12, [some (vR 1), none, none], [], LAY (u (u (u (u (u (u (u (u (u (u (shA A) 8 m8) 9 m9) 10 m10) 11 l11) 75 l75) 76 l76) 77 l77) 78 l78) 84 l84) 85 l85) (u (u (u (shF F) 2 y) 14 v14) 15 v15), 0, 0)) hc101 0 rfl trivial ?_
  refine R_s (P := True) (f' := (14, [some (vR 1), some (vI 0), none], [], LAY (u (u (u (u (u (u (u (u (u (u (shA A) 8 m8) 9 m9) 10 m10) 11 l11) 75 l75) 76 l76) 77 l77) 78 l78) 84 l84) 85 l85) (u (u (u (shF F) 2 y) 14 v14) 15 v15), 0, 0)) hc101 2 rfl trivial ?_
  have lp : ∀ (m i : Nat) (x : Int) (dv : Option AV) (m11 : List Int) (m75 : List Int) (m76 : List Int) (m77 : List Int) (m78 : List Int) (m84 : List Int) (m85 : List Int) (w14 : Int) (w15 : Int), x = (i : Int) → m11.length = 30 → m75.length = 6 → m76.length = 6 → m77.length = 30 → m78.length = 30 → m84.length = 30 → m85.length = 8 → (∀ p : Nat, p < 30 → rd m84 p = rd l84 p + if p < (F 3).toNat then yP A F y i p else 0) → (∀ h : Nat, h < 8 → rd m85 h = rd l85 h + yH A F y i h) → i ≤ (F 0).toNat → (F 0).toNat + 1 ≤ i + m → R 101 (14, [some (vR 1), some (vI x), dv], [], LAY (u (u (u (u (u (u (u (u (u (u (shA A) 8 m8) 9 m9) 10 m10) 11 m11) 75 m75) 76 m76) 77 m77) 78 m78) 84 m84) 85 m85) (u (u (u (shF F) 2 y) 14 w14) 15 w15), 0, 0) (fun r G => r = none ∧ ∃ n8 n9 n10 n11 n75 n76 n77 n78 n84 n85 w14 w15, G = LAY (u (u (u (u (u (u (u (u (u (u (shA A) 8 n8) 9 n9) 10 n10) 11 n11) 75 n75) 76 n76) 77 n77) 78 n78) 84 n84) 85 n85) (u (u (u (shF F) 2 (y + 1)) 14 w14) 15 w15) ∧ n8.length = 30 ∧ n9.length = 30 ∧ n10.length = 30 ∧ n11.length = 30 ∧ n75.length = 6 ∧ n76.length = 6 ∧ n77.length = 30 ∧ n78.length = 30 ∧ n84.length = 30 ∧ n85.length = 8 ∧ (∀ p : Nat, p < 30 → rd n84 p = rd l84 p + if p < (F 3).toNat then yP A F y (F 0).toNat p else 0) ∧ ∀ h : Nat, h < 8 → rd n85 h = rd l85 h + yH A F y (F 0).toNat h) := by
    intro m
    induction m with
    | zero =>
      intro i x dv m11 m75 m76 m77 m78 m84 m85 w14 w15 ex hm11 hm75 hm76 hm77 hm78 hm84 hm85 hP hH hi hm
      exact absurd hm (by omega)
    | succ m ih =>
      intro i x dv m11 m75 m76 m77 m78 m84 m85 w14 w15 ex hm11 hm75 hm76 hm77 hm78 hm84 hm85 hP hH hi hm
      have gb84 : ∀ p : Nat, p < 30 → -1000000000000000 ≤ rd m84 p ∧ rd m84 p ≤ 1000000000000000 := fun p hp => by
        have q1 := b84 p hp
        rw [hP p hp]
        split
        · rename_i q
          have q2 := yP_bd hR h0 h1 (D := i) (by omega) p q
          omega
        · omega
      have gb85 : ∀ h : Nat, h < 8 → -1000000000000000 ≤ rd m85 h ∧ rd m85 h ≤ 1000000000000000 := fun h hh => by
        have q1 := b85 h hh
        have q2 := yH_bd hR h0 h1 (D := i) (by omega) h
        rw [hH h hh]
        omega
      refine R_s (P := True) (f' := (19, [some (vR 1), some (vI x), dv], [vI (F 0), vI x], LAY (u (u (u (u (u (u (u (u (u (u (shA A) 8 m8) 9 m9) 10 m10) 11 m11) 75 m75) 76 m76) 77 m77) 78 m78) 84 m84) 85 m85) (u (u (u (shF F) 2 y) 14 w14) 15 w15), 0, 0)) hc101 3 rfl trivial ?_
      refine R_ic (t := 68) hc101 rfl rfl (fun (c1 : F 0 ≤ x) => ?_) (fun (c1 : ¬ (F 0 ≤ x)) => ?_)
      · refine R_s (P := inI (y + 1) ∧ True) (f' := (78, [some (vR 1), some (vI x), dv], [], LAY (u (u (u (u (u (u (u (u (u (u (shA A) 8 m8) 9 m9) 10 m10) 11 m11) 75 m75) 76 m76) 77 m77) 78 m78) 84 m84) 85 m85) (u (u (u (shF F) 14 w14) 15 w15) 2 (y + 1)), 0, 0)) hc101 6 rfl ⟨⟨by omega, by omega⟩, trivial⟩ ?_
        exact R_retv hc101 rfl rfl ⟨rfl, m8, m9, m10, m11, m75, m76, m77, m78, m84, m85, w14, w15, rfl, hm8, hm9, hm10, hm11, hm75, hm76, hm77, hm78, hm84, hm85, fun p hp => by rw [hP p hp, show i = (F 0).toNat by omega], fun h hh => by rw [hH h hh, show i = (F 0).toNat by omega]⟩
      · obtain e | e : i = 0 ∨ i = 1 := by omega
        · have hd : (0 : Int) < F 0 := by omega
          have ex0 : x = 0 := by omega
          rw [ex0]
          refine R_s (P := (0 ≤ (0 : Int) ∧ (0 : Int) < (([some 20, some 29, some 38, some 47, some 56, some 65] : List (Option Nat)).length : Int)) ∧ True) (f' := (47, [some (vR 1), some (vI 0), some (vR 20)], [vI 0, vR 12, vR 20, vR 2, vR 74], LAY (u (u (u (u (u (u (u (u (u (u (shA A) 8 m8) 9 m9) 10 m10) 11 m11) 75 m75) 76 m76) 77 m77) 78 m78) 84 m84) 85 m85) (u (u (u (shF F) 2 y) 14 w14) 15 w15), 0, 0)) hc101 15 rfl ⟨(by decide), trivial⟩ ?_
          refine R_cv hc101 rfl rfl (l_yieldC (A := (u (u (u (u (u (u (u (u (u (u (shA A) 8 m8) 9 m9) 10 m10) 11 m11) 75 m75) 76 m76) 77 m77) 78 m78) 84 m84) 85 m85)) (F := (u (u (u (shF F) 2 y) 14 w14) 15 w15)) (LENS_run hL hm8 hm9 hm10 hm11 hm75 hm76 hm77 hm78 hm84 hm85) ⟨hTH.1, hTH.2.1⟩ 0 (by decide) (fun i hi => R_prod hR (d := 0) (by decide) i hi)) (fun r G9 hp9 => ?_)
          obtain ⟨e1, rfl⟩ := hp9
          have e2 : r = some (vI (N_Y A F 0)) := e1
          clear e1
          subst e2
          obtain ⟨so, te, tp, mg, pm, lo, hS⟩ := SPL_ex A (u F 2 y) (N_al A (u F 2 y)) (N_Q A 21) (F 8).toNat (N_Y A F 0)
          have hg := SPL_g (A := A) (F := u F 2 y) (d := 0) hS
          obtain ⟨s1, s2, s3, s4, s5, s6⟩ := hS
          refine R_s (f' := (50, [some (vR 1), some (vI 0), some (vR 20)], [vI (N_Y A F 0), vR 20, vR 2, vR 74], LAY (u (u (u (u (u (u (u (u (u (u (shA A) 8 m8) 9 m9) 10 m10) 11 m11) 75 m75) 76 m76) 77 m77) 78 m78) 84 m84) 85 m85) (u (u (u (shF F) 2 y) 14 w14) 15 w15), 0, 0)) hc101 0 rfl trivial ?_
          refine R_s (P := True) (f' := (54, [some (vR 1), some (vI 0), some (vR 20)], [vI y, vI (N_Y A F 0), vR 20, vR 2, vR 74], LAY (u (u (u (u (u (u (u (u (u (u (shA A) 8 m8) 9 m9) 10 m10) 11 m11) 75 m75) 76 m76) 77 m77) 78 m78) 84 m84) 85 m85) (u (u (u (shF F) 2 y) 14 w14) 15 w15), 0, 0)) hc101 2 rfl trivial ?_
          refine R_cv hc101 rfl rfl (l_reckon0 (A := (u (u (u (u (u (u (u (u (u (u (shA A) 8 m8) 9 m9) 10 m10) 11 m11) 75 m75) 76 m76) 77 m77) 78 m78) 84 m84) 85 m85)) (F := (u (u (u (shF F) 2 y) 14 w14) 15 w15)) (n := (F 3).toNat) (LENS_run hL hm8 hm9 hm10 hm11 hm75 hm76 hm77 hm78 hm84 hm85) hn hn30 (R_TR (A := A) hR) (al := N_al A (u F 2 y)) (fun p hp => (hw p hp).1) (N_al_01 (A := A) (F := u F 2 y) hRy) (Q := N_Q A 21) (e := (F 8).toNat) (D_at0 hR hd).1 (by show F 8 = (((F 8).toNat : Nat) : Int); have := (D_at0 hR hd).1.1; omega) rfl rfl rfl rfl rfl rfl rfl rfl (fun p hp => (hw p hp).2) (Y := N_Y A F 0) (yr := y) (N_Y_bd hR (by decide)) (so := so) s1 (mg := mg) (pm := pm) (lo := lo) s2 s3 s4) (fun r G9 hp9 => ?_)
          obtain ⟨rfl, r11, r75, r76, r77, r78, rfl, hr11, hr75, hr76, hr77, hr78, z1, z2, z3⟩ := hp9
          have z4 : ∀ p : Nat, p < (F 3).toNat → rd r77 p = gP A (u F 2 y) 0 p := fun p hp => by
            rw [← hg.1, s6]
            exact z3 p hp
          have z5 : ∀ j : Nat, j < (F 8).toNat → rd r76 j = gE A (u F 2 y) 0 j := fun j hj => by
            rw [← hg.2, s5]
            exact z2 j hj
          refine R_s (f' := (57, [some (vR 1), some (vI 0), some (vR 20)], [], LAY (u (u (u (u (u (u (u (u (u (u (shA A) 8 m8) 9 m9) 10 m10) 84 m84) 85 m85) 75 r75) 11 r11) 78 r78) 77 r77) 76 r76) (u (u (u (shF F) 2 y) 14 mg) 15 lo), 0, 0)) hc101 0 rfl trivial ?_
          refine R_s (P := True) (f' := (59, [some (vR 1), some (vI 0), some (vR 20)], [vR 20, vR 1], LAY (u (u (u (u (u (u (u (u (u (u (shA A) 8 m8) 9 m9) 10 m10) 84 m84) 85 m85) 75 r75) 11 r11) 78 r78) 77 r77) 76 r76) (u (u (u (shF F) 2 y) 14 mg) 15 lo), 0, 0)) hc101 2 rfl trivial ?_
          refine R_cv hc101 rfl rfl (l_payOut0 (A := (u (u (u (u (u (u (u (u (u (u (shA A) 8 m8) 9 m9) 10 m10) 11 r11) 75 r75) 76 r76) 77 r77) 78 r78) 84 m84) 85 m85)) (F := (u (u (u (shF F) 2 y) 14 mg) 15 lo)) (n := (F 3).toNat) (LENS_run hL hm8 hm9 hm10 hr11 hr75 hr76 hr77 hr78 hm84 hm85) hn hn30 (Q := N_Q A 21) (e := (F 8).toNat) (D_at0 hR hd).1 (by show F 8 = (((F 8).toNat : Nat) : Int); have := (D_at0 hR hd).1.1; omega) rfl rfl gb84 gb85 (fun p hp => by have q1 := gP_bd hRy 0 hd p hp; have q2 := z4 p hp; (show 0 ≤ rd r77 p ∧ rd r77 p ≤ 1000000); omega) (fun j hj => by have q1 := gE_bd hRy 0 hd j hj; have q2 := z5 j hj; (show -20000000 ≤ rd r76 j ∧ rd r76 j ≤ 20000000); omega)) (fun r G9 hp9 => ?_)
          obtain ⟨rfl, p84, p85, rfl, hp84, hp85, z84, z85⟩ := hp9
          refine R_s (f' := (62, [some (vR 1), some (vI 0), some (vR 20)], [], LAY (u (u (u (u (u (u (u (u (u (u (shA A) 8 m8) 9 m9) 10 m10) 75 r75) 11 r11) 78 r78) 77 r77) 76 r76) 84 p84) 85 p85) (u (u (u (shF F) 2 y) 14 mg) 15 lo), 0, 0)) hc101 0 rfl trivial ?_
          refine R_s (P := inI 1 ∧ True) (f' := (14, [some (vR 1), some (vI 1), some (vR 20)], [], LAY (u (u (u (u (u (u (u (u (u (u (shA A) 8 m8) 9 m9) 10 m10) 75 r75) 11 r11) 78 r78) 77 r77) 76 r76) 84 p84) 85 p85) (u (u (u (shF F) 2 y) 14 mg) 15 lo), 0, 0)) hc101 2 rfl ⟨⟨by omega, by omega⟩, trivial⟩ ?_
          refine R_s (P := True) (f' := (14, [some (vR 1), some (vI 1), some (vR 20)], [], LAY (u (u (u (u (u (u (u (u (u (u (shA A) 8 m8) 9 m9) 10 m10) 11 r11) 75 r75) 76 r76) 77 r77) 78 r78) 84 p84) 85 p85) (u (u (u (shF F) 2 y) 14 mg) 15 lo), 0, 0)) hc101 0 rfl trivial ?_
          refine ih (i + 1) _ _ _ _ _ _ _ _ _ _ _ (by omega) hr11 hr75 hr76 hr77 hr78 hp84 hp85 (fun p hp => ?_) (fun h hh => ?_) (by omega) (by omega)
          · have q1 := z84 p hp
            have q3 : rd p84 p = rd m84 p + if p < (F 3).toNat then rd r77 p else 0 := q1
            rw [q3, hP p hp]
            by_cases q2 : p < (F 3).toNat
            · rw [if_pos q2, if_pos q2, if_pos q2, z4 p q2]
              simp only [yP, sm]
              rw [show gP A (u F 2 y) i p = gP A (u F 2 y) 0 p by rw [e]]
              omega
            · rw [if_neg q2, if_neg q2, if_neg q2]
              omega
          · have q1 := z85 h hh
            have q3 : rd p85 h = rd m85 h + sm (pO (N_Q A 21) r76 h) (F 8).toNat := q1
            have q4 : sm (pO (N_Q A 21) r76 h) (F 8).toNat = gH A (u F 2 y) 0 h := gH_eq (A := A) (F := u F 2 y) (d := 0) z5
            rw [q3, q4, hH h hh]
            simp only [yH, sm]
            rw [show gH A (u F 2 y) i h = gH A (u F 2 y) 0 h by rw [e]]
            omega
        · have hd : (1 : Int) < F 0 := by omega
          have ex0 : x = 1 := by omega
          rw [ex0]
          refine R_s (P := (0 ≤ (1 : Int) ∧ (1 : Int) < (([some 20, some 29, some 38, some 47, some 56, some 65] : List (Option Nat)).length : Int)) ∧ True) (f' := (47, [some (vR 1), some (vI 1), some (vR 29)], [vI 1, vR 12, vR 29, vR 2, vR 74], LAY (u (u (u (u (u (u (u (u (u (u (shA A) 8 m8) 9 m9) 10 m10) 11 m11) 75 m75) 76 m76) 77 m77) 78 m78) 84 m84) 85 m85) (u (u (u (shF F) 2 y) 14 w14) 15 w15), 0, 0)) hc101 15 rfl ⟨(by decide), trivial⟩ ?_
          refine R_cv hc101 rfl rfl (l_yieldC (A := (u (u (u (u (u (u (u (u (u (u (shA A) 8 m8) 9 m9) 10 m10) 11 m11) 75 m75) 76 m76) 77 m77) 78 m78) 84 m84) 85 m85)) (F := (u (u (u (shF F) 2 y) 14 w14) 15 w15)) (LENS_run hL hm8 hm9 hm10 hm11 hm75 hm76 hm77 hm78 hm84 hm85) ⟨hTH.1, hTH.2.1⟩ 1 (by decide) (fun i hi => R_prod hR (d := 1) (by decide) i hi)) (fun r G9 hp9 => ?_)
          obtain ⟨e1, rfl⟩ := hp9
          have e2 : r = some (vI (N_Y A F 1)) := e1
          clear e1
          subst e2
          obtain ⟨so, te, tp, mg, pm, lo, hS⟩ := SPL_ex A (u F 2 y) (N_al A (u F 2 y)) (N_Q A 30) (F 9).toNat (N_Y A F 1)
          have hg := SPL_g (A := A) (F := u F 2 y) (d := 1) hS
          obtain ⟨s1, s2, s3, s4, s5, s6⟩ := hS
          refine R_s (f' := (50, [some (vR 1), some (vI 1), some (vR 29)], [vI (N_Y A F 1), vR 29, vR 2, vR 74], LAY (u (u (u (u (u (u (u (u (u (u (shA A) 8 m8) 9 m9) 10 m10) 11 m11) 75 m75) 76 m76) 77 m77) 78 m78) 84 m84) 85 m85) (u (u (u (shF F) 2 y) 14 w14) 15 w15), 0, 0)) hc101 0 rfl trivial ?_
          refine R_s (P := True) (f' := (54, [some (vR 1), some (vI 1), some (vR 29)], [vI y, vI (N_Y A F 1), vR 29, vR 2, vR 74], LAY (u (u (u (u (u (u (u (u (u (u (shA A) 8 m8) 9 m9) 10 m10) 11 m11) 75 m75) 76 m76) 77 m77) 78 m78) 84 m84) 85 m85) (u (u (u (shF F) 2 y) 14 w14) 15 w15), 0, 0)) hc101 2 rfl trivial ?_
          refine R_cv hc101 rfl rfl (l_reckon1 (A := (u (u (u (u (u (u (u (u (u (u (shA A) 8 m8) 9 m9) 10 m10) 11 m11) 75 m75) 76 m76) 77 m77) 78 m78) 84 m84) 85 m85)) (F := (u (u (u (shF F) 2 y) 14 w14) 15 w15)) (n := (F 3).toNat) (LENS_run hL hm8 hm9 hm10 hm11 hm75 hm76 hm77 hm78 hm84 hm85) hn hn30 (R_TR (A := A) hR) (al := N_al A (u F 2 y)) (fun p hp => (hw p hp).1) (N_al_01 (A := A) (F := u F 2 y) hRy) (Q := N_Q A 30) (e := (F 9).toNat) (D_at1 hR hd).1 (by show F 9 = (((F 9).toNat : Nat) : Int); have := (D_at1 hR hd).1.1; omega) rfl rfl rfl rfl rfl rfl rfl rfl (fun p hp => (hw p hp).2) (Y := N_Y A F 1) (yr := y) (N_Y_bd hR (by decide)) (so := so) s1 (mg := mg) (pm := pm) (lo := lo) s2 s3 s4) (fun r G9 hp9 => ?_)
          obtain ⟨rfl, r11, r75, r76, r77, r78, rfl, hr11, hr75, hr76, hr77, hr78, z1, z2, z3⟩ := hp9
          have z4 : ∀ p : Nat, p < (F 3).toNat → rd r77 p = gP A (u F 2 y) 1 p := fun p hp => by
            rw [← hg.1, s6]
            exact z3 p hp
          have z5 : ∀ j : Nat, j < (F 9).toNat → rd r76 j = gE A (u F 2 y) 1 j := fun j hj => by
            rw [← hg.2, s5]
            exact z2 j hj
          refine R_s (f' := (57, [some (vR 1), some (vI 1), some (vR 29)], [], LAY (u (u (u (u (u (u (u (u (u (u (shA A) 8 m8) 9 m9) 10 m10) 84 m84) 85 m85) 75 r75) 11 r11) 78 r78) 77 r77) 76 r76) (u (u (u (shF F) 2 y) 14 mg) 15 lo), 0, 0)) hc101 0 rfl trivial ?_
          refine R_s (P := True) (f' := (59, [some (vR 1), some (vI 1), some (vR 29)], [vR 29, vR 1], LAY (u (u (u (u (u (u (u (u (u (u (shA A) 8 m8) 9 m9) 10 m10) 84 m84) 85 m85) 75 r75) 11 r11) 78 r78) 77 r77) 76 r76) (u (u (u (shF F) 2 y) 14 mg) 15 lo), 0, 0)) hc101 2 rfl trivial ?_
          refine R_cv hc101 rfl rfl (l_payOut1 (A := (u (u (u (u (u (u (u (u (u (u (shA A) 8 m8) 9 m9) 10 m10) 11 r11) 75 r75) 76 r76) 77 r77) 78 r78) 84 m84) 85 m85)) (F := (u (u (u (shF F) 2 y) 14 mg) 15 lo)) (n := (F 3).toNat) (LENS_run hL hm8 hm9 hm10 hr11 hr75 hr76 hr77 hr78 hm84 hm85) hn hn30 (Q := N_Q A 30) (e := (F 9).toNat) (D_at1 hR hd).1 (by show F 9 = (((F 9).toNat : Nat) : Int); have := (D_at1 hR hd).1.1; omega) rfl rfl gb84 gb85 (fun p hp => by have q1 := gP_bd hRy 1 hd p hp; have q2 := z4 p hp; (show 0 ≤ rd r77 p ∧ rd r77 p ≤ 1000000); omega) (fun j hj => by have q1 := gE_bd hRy 1 hd j hj; have q2 := z5 j hj; (show -20000000 ≤ rd r76 j ∧ rd r76 j ≤ 20000000); omega)) (fun r G9 hp9 => ?_)
          obtain ⟨rfl, p84, p85, rfl, hp84, hp85, z84, z85⟩ := hp9
          refine R_s (f' := (62, [some (vR 1), some (vI 1), some (vR 29)], [], LAY (u (u (u (u (u (u (u (u (u (u (shA A) 8 m8) 9 m9) 10 m10) 75 r75) 11 r11) 78 r78) 77 r77) 76 r76) 84 p84) 85 p85) (u (u (u (shF F) 2 y) 14 mg) 15 lo), 0, 0)) hc101 0 rfl trivial ?_
          refine R_s (P := inI 2 ∧ True) (f' := (14, [some (vR 1), some (vI 2), some (vR 29)], [], LAY (u (u (u (u (u (u (u (u (u (u (shA A) 8 m8) 9 m9) 10 m10) 75 r75) 11 r11) 78 r78) 77 r77) 76 r76) 84 p84) 85 p85) (u (u (u (shF F) 2 y) 14 mg) 15 lo), 0, 0)) hc101 2 rfl ⟨⟨by omega, by omega⟩, trivial⟩ ?_
          refine R_s (P := True) (f' := (14, [some (vR 1), some (vI 2), some (vR 29)], [], LAY (u (u (u (u (u (u (u (u (u (u (shA A) 8 m8) 9 m9) 10 m10) 11 r11) 75 r75) 76 r76) 77 r77) 78 r78) 84 p84) 85 p85) (u (u (u (shF F) 2 y) 14 mg) 15 lo), 0, 0)) hc101 0 rfl trivial ?_
          refine ih (i + 1) _ _ _ _ _ _ _ _ _ _ _ (by omega) hr11 hr75 hr76 hr77 hr78 hp84 hp85 (fun p hp => ?_) (fun h hh => ?_) (by omega) (by omega)
          · have q1 := z84 p hp
            have q3 : rd p84 p = rd m84 p + if p < (F 3).toNat then rd r77 p else 0 := q1
            rw [q3, hP p hp]
            by_cases q2 : p < (F 3).toNat
            · rw [if_pos q2, if_pos q2, if_pos q2, z4 p q2]
              simp only [yP, sm]
              rw [show gP A (u F 2 y) i p = gP A (u F 2 y) 1 p by rw [e]]
              omega
            · rw [if_neg q2, if_neg q2, if_neg q2]
              omega
          · have q1 := z85 h hh
            have q3 : rd p85 h = rd m85 h + sm (pO (N_Q A 30) r76 h) (F 9).toNat := q1
            have q4 : sm (pO (N_Q A 30) r76 h) (F 9).toNat = gH A (u F 2 y) 1 h := gH_eq (A := A) (F := u F 2 y) (d := 1) z5
            rw [q3, q4, hH h hh]
            simp only [yH, sm]
            rw [show gH A (u F 2 y) i h = gH A (u F 2 y) 1 h by rw [e]]
            omega
  refine R_s (P := True) (f' := (14, [some (vR 1), some (vI 0), none], [], LAY (u (u (u (u (u (u (u (u (u (u (shA A) 8 m8) 9 m9) 10 m10) 11 l11) 75 l75) 76 l76) 77 l77) 78 l78) 84 l84) 85 l85) (u (u (u (shF F) 2 y) 14 v14) 15 v15), 0, 0)) hc101 0 rfl trivial ?_
  exact lp ((F 0).toNat + 1) 0 _ _ _ _ _ _ _ _ _ _ _ rfl hl11 hl75 hl76 hl77 hl78 hl84 hl85 (fun p hp => by simp only [yP, sm]; split <;> omega) (fun h hh => by simp only [yH, sm]; omega) (by omega) (by omega)

theorem run_C {c : Int} {A : Nat → List Int} {F : Nat → Int} (hR : REL c A F) (hF2 : F 0 ≤ 2) {n : Int} (h0 : 1 ≤ n) (h1 : F 2 + n ≤ 600) {post : Option AV → AG → Prop} (hk : ∀ (x : Int) (m8 m9 m10 m11 m75 m76 m77 m78 m84 m85 : List Int) (_ : m8.length = 30) (_ : m9.length = 30) (_ : m10.length = 30) (_ : m11.length = 30) (_ : m75.length = 6) (_ : m76.length = 6) (_ : m77.length = 30) (_ : m78.length = 30) (_ : m84.length = 30) (_ : m85.length = 8) (w14 w15 : Int), (∀ p : Nat, p < 30 → rd m84 p = aP A F n.toNat p) → (∀ h : Nat, h < 8 → rd m85 h = aH A F n.toNat h) → R 81 (65, [some (vR 1), some (vI n), some (vI x)], [], LAY (u (u (u (u (u (u (u (u (u (u (shA A) 8 m8) 9 m9) 10 m10) 11 m11) 75 m75) 76 m76) 77 m77) 78 m78) 84 m84) 85 m85) (u (u (u (shF F) 2 (F 2 + n)) 14 w14) 15 w15), 0, 0) post) : R 81 (50, [some (vR 1), some (vI n), some (vI 0)], [], LAY (shA A) (shF F), 0, 0) post := by
  have hL := hR.1
  have hNO := hR.2.2.2.2.2.2.1
  have lp : ∀ (m i : Nat) (x : Int) (y : Int) (m8 : List Int) (m9 : List Int) (m10 : List Int) (m11 : List Int) (m75 : List Int) (m76 : List Int) (m77 : List Int) (m78 : List Int) (m84 : List Int) (m85 : List Int) (w14 : Int) (w15 : Int), x = (i : Int) → y = F 2 + i → m8.length = 30 → m9.length = 30 → m10.length = 30 → m11.length = 30 → m75.length = 6 → m76.length = 6 → m77.length = 30 → m78.length = 30 → m84.length = 30 → m85.length = 8 → (∀ p : Nat, p < 30 → rd m84 p = aP A F i p) → (∀ h : Nat, h < 8 → rd m85 h = aH A F i h) → i ≤ n.toNat → n.toNat + 1 ≤ i + m → R 81 (50, [some (vR 1), some (vI n), some (vI x)], [], LAY (u (u (u (u (u (u (u (u (u (u (shA A) 8 m8) 9 m9) 10 m10) 11 m11) 75 m75) 76 m76) 77 m77) 78 m78) 84 m84) 85 m85) (u (u (u (shF F) 2 y) 14 w14) 15 w15), 0, 0) post := by
    intro m
    induction m with
    | zero =>
      intro i x y m8 m9 m10 m11 m75 m76 m77 m78 m84 m85 w14 w15 ex ey hm8 hm9 hm10 hm11 hm75 hm76 hm77 hm78 hm84 hm85 hP hH hi hm
      exact absurd hm (by omega)
    | succ m ih =>
      intro i x y m8 m9 m10 m11 m75 m76 m77 m78 m84 m85 w14 w15 ex ey hm8 hm9 hm10 hm11 hm75 hm76 hm77 hm78 hm84 hm85 hP hH hi hm
      have hm1 : (F 2 + i) * 1000000000 ≤ 601 * 1000000000 := Int.mul_le_mul_of_nonneg_right (by omega) (by decide)
      have gb84 : ∀ p : Nat, p < 30 → -900000000000000 ≤ rd m84 p ∧ rd m84 p ≤ 900000000000000 := fun p hp => by
        have q1 := aP_bd hR i (by omega) p hp
        rw [hP p hp]
        omega
      have gb85 : ∀ h : Nat, h < 8 → -900000000000000 ≤ rd m85 h ∧ rd m85 h ≤ 900000000000000 := fun h hh => by
        have q1 := aH_bd hR i (by omega) h hh
        rw [hH h hh]
        omega
      refine R_s (P := True) (f' := (52, [some (vR 1), some (vI n), some (vI x)], [vI n, vI x], LAY (u (u (u (u (u (u (u (u (u (u (shA A) 8 m8) 9 m9) 10 m10) 11 m11) 75 m75) 76 m76) 77 m77) 78 m78) 84 m84) 85 m85) (u (u (u (shF F) 2 y) 14 w14) 15 w15), 0, 0)) hc81 2 rfl trivial ?_
      refine R_ic (t := 65) hc81 rfl rfl (fun (c1 : n ≤ x) => ?_) (fun (c1 : ¬ (n ≤ x)) => ?_)
      · have e9 : y = F 2 + n := by omega
        have e8 : i = n.toNat := by omega
        rw [e9]
        rw [e8] at hP hH
        exact hk x m8 m9 m10 m11 m75 m76 m77 m78 m84 m85 hm8 hm9 hm10 hm11 hm75 hm76 hm77 hm78 hm84 hm85 w14 w15 hP hH
      · refine R_s (P := True) (f' := (56, [some (vR 1), some (vI n), some (vI x)], [vR 1], LAY (u (u (u (u (u (u (u (u (u (u (shA A) 8 m8) 9 m9) 10 m10) 11 m11) 75 m75) 76 m76) 77 m77) 78 m78) 84 m84) 85 m85) (u (u (u (shF F) 2 y) 14 w14) 15 w15), 0, 0)) hc81 1 rfl trivial ?_
        refine R_cv hc81 rfl rfl (l_goBy hR hF2 hm8 hm9 hm10 hm11 hm75 hm76 hm77 hm78 hm84 hm85 (y := y) (by omega) (by omega) gb84 gb85) (fun r G9 hp9 => ?_)
        obtain ⟨rfl, n8, n9, n10, n11, n75, n76, n77, n78, n84, n85, u14, u15, rfl, hn8, hn9, hn10, hn11, hn75, hn76, hn77, hn78, hn84, hn85, zP, zH⟩ := hp9
        refine R_s (f' := (59, [some (vR 1), some (vI n), some (vI x)], [], LAY (u (u (u (u (u (u (u (u (u (u (shA A) 8 n8) 9 n9) 10 n10) 11 n11) 75 n75) 76 n76) 77 n77) 78 n78) 84 n84) 85 n85) (u (u (u (shF F) 2 (y + 1)) 14 u14) 15 u15), 0, 0)) hc81 0 rfl trivial ?_
        refine R_s (P := inI (x + 1) ∧ True) (f' := (50, [some (vR 1), some (vI n), some (vI (x + 1))], [], LAY (u (u (u (u (u (u (u (u (u (u (shA A) 8 n8) 9 n9) 10 n10) 11 n11) 75 n75) 76 n76) 77 n77) 78 n78) 84 n84) 85 n85) (u (u (u (shF F) 2 (y + 1)) 14 u14) 15 u15), 0, 0)) hc81 2 rfl ⟨⟨by omega, by omega⟩, trivial⟩ ?_
        refine ih (i + 1) _ _ _ _ _ _ _ _ _ _ _ _ _ _ (by omega) (by omega) hn8 hn9 hn10 hn11 hn75 hn76 hn77 hn78 hn84 hn85 (fun p hp => ?_) (fun h hh => ?_) (by omega) (by omega)
        · rw [zP p hp, hP p hp, ey]
          unfold aP
          by_cases q : p < (F 3).toNat
          · rw [if_pos q, if_pos q, if_pos q]
            simp only [sm]
            omega
          · rw [if_neg q, if_neg q, if_neg q]
            omega
        · rw [zH h hh, hH h hh, ey]
          unfold aH
          simp only [sm]
          omega
  refine R_s (P := True) (f' := (50, [some (vR 1), some (vI n), some (vI 0)], [], LAY (u (u (u (u (u (u (u (u (u (u (shA A) 8 (A 8)) 9 (A 9)) 10 (A 10)) 11 (A 11)) 75 (A 75)) 76 (A 76)) 77 (A 77)) 78 (A 78)) 84 (A 84)) 85 (A 85)) (u (u (u (shF F) 2 (F 2)) 14 (F 14)) 15 (F 15)), 0, 0)) hc81 0 rfl trivial ?_
  exact lp (n.toNat + 1) 0 _ _ _ _ _ _ _ _ _ _ _ _ _ _ rfl (by omega) (hL 8 (by decide)) (hL 9 (by decide)) (hL 10 (by decide)) (hL 11 (by decide)) (hL 75 (by decide)) (hL 76 (by decide)) (hL 77 (by decide)) (hL 78 (by decide)) (hL 84 (by decide)) (hL 85 (by decide)) (fun p hp => by unfold aP; simp only [sm]; split <;> omega) (fun h hh => by unfold aH; simp only [sm]; omega) (by omega) (by omega)

