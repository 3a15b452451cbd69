theorem l_shareByHeads {A : Nat → List Int} {F : Nat → Int} {n : Nat} (hL : LENS A) (hn : (n : Int) = F 3) (hn30 : n ≤ 30) (hT : TR (A 3) n) {al : Nat → Int} (hal : ∀ p : Nat, p < n → rd (A 8) p = al p) (ha : ∀ p : Nat, p < n → al p = 0 ∨ al p = 1) (hCH : ∀ p : Nat, p < n → rd (A 9) p = CN (A 3) n al p ∧ rd (A 10) p = HR (A 3) n al p) {root : Int} {ro : Nat} (hro : root = ro) (hr : ro < n) (hz0 : ∀ p : Nat, p < n → rd (A 78) p = 0) : R 34 (0, L0 34 [vR 74, vR 2, vI root], [], LAY A F, 0, 0) (fun r G => r = none ∧ ∃ l11 l78, G = LAY (u (u A 11 l11) 78 l78) F ∧ l11.length = 30 ∧ l78.length = 30 ∧ ∀ p : Nat, p < n → rd l78 p = if rq (A 3) 0 ro p = 1 ∧ al p = 1 then CN (A 3) n al ro else 0) := by
  have h3 : (A 3).length = 30 := hL 3 (by decide)
  have h8 : (A 8).length = 30 := hL 8 (by decide)
  have h9 : (A 9).length = 30 := hL 9 (by decide)
  have h11 : (A 11).length = 30 := hL 11 (by decide)
  have h78 : (A 78).length = 30 := hL 78 (by decide)
  have h9r := (hCH ro hr).1
  rw [← hro] at h9r
  have cb := CN_bd (P := A 3) ha ro
  refine R_s (P := True) (f' := (1, [some (vR 74), some (vR 2), some (vI root), none], [vR 2], LAY A F, 0, 0)) hc34 1 rfl trivial ?_
  refine R_cv hc34 rfl rfl (l_clearLine hL hn hn30) (fun r G9 hp9 => ?_)
  obtain ⟨rfl, l11, rfl, hl11, hc11⟩ := hp9
  refine R_s (f' := (4, [some (vR 74), some (vR 2), some (vI root), none], [], LAY (u A 11 l11) F, 0, 0)) hc34 0 rfl trivial ?_
  refine R_s (P := True) (f' := (6, [some (vR 74), some (vR 2), some (vI root), none], [vI root, vR 2], LAY (u A 11 l11) F, 0, 0)) hc34 2 rfl trivial ?_
  refine R_cv hc34 rfl rfl (l_addLine (A := u A 11 l11) (mk := fun _ => 0) (LENS_u hL (by rw [hl11, h11])) hn hn30 hT hro hr hc11 (fun _ _ => .inl rfl) (fun _ _ _ h => h)) (fun r G9 hp9 => ?_)
  obtain ⟨rfl, m11, e11, hm11, hc12⟩ := hp9
  subst e11
  have hc13 : ∀ p : Nat, p < n → rd m11 p = if rq (A 3) 0 ro p = 1 then 1 else 0 := hc12
  refine R_s (f' := (9, [some (vR 74), some (vR 2), some (vI root), none], [], LAY (u A 11 m11) F, 0, 0)) hc34 0 rfl trivial ?_
  refine R_s (P := True) (f' := (11, [some (vR 74), some (vR 2), some (vI root), some (vI 0)], [], LAY (u A 11 m11) F, 0, 0)) hc34 2 rfl trivial ?_
  have lp : ∀ (m i : Nat) (x : Int) (l : List Int), x = (i : Int) → l.length = 30 → (∀ p : Nat, p < n → rd l p = if p < i ∧ rq (A 3) 0 ro p = 1 ∧ al p = 1 then CN (A 3) n al ro else 0) → i ≤ n → n + 1 ≤ i + m → R 34 (11, [some (vR 74), some (vR 2), some (vI root), some (vI x)], [], LAY (u (u A 11 m11) 78 l) F, 0, 0) (fun r G => r = none ∧ ∃ l11 l78, G = LAY (u (u A 11 l11) 78 l78) F ∧ l11.length = 30 ∧ l78.length = 30 ∧ ∀ p : Nat, p < n → rd l78 p = if rq (A 3) 0 ro p = 1 ∧ al p = 1 then CN (A 3) n al ro else 0) := by
    intro m
    induction m with
    | zero =>
      intro i x l ex hl hz hi hm
      exact absurd hm (by omega)
    | succ m ih =>
      intro i x l ex hl hz hi hm
      have g1 := hal i
      have g2 := hc13 i
      have g3 := ha i
      have g4 := rq_01 (P := A 3) (q := 0) (p := ro) i
      rw [← ex] at g1 g2
      refine R_s (P := True) (f' := (16, [some (vR 74), some (vR 2), some (vI root), some (vI x)], [vI (F 3), vI x], LAY (u (u A 11 m11) 78 l) F, 0, 0)) hc34 3 rfl trivial ?_
      refine R_ic (t := 55) hc34 rfl rfl (fun (c1 : F 3 ≤ x) => ?_) (fun (c1 : ¬ (F 3 ≤ x)) => ?_)
      · refine R_retv hc34 rfl rfl ⟨rfl, m11, l, rfl, hm11, hl, fun p hp => ?_⟩
        have g6 := hz p hp
        have e4 : p < i := by omega
        simp only [e4, true_and] at g6
        exact g6
      · refine R_s (P := (0 ≤ x ∧ x < ((m11).length : Int)) ∧ True) (f' := (25, [some (vR 74), some (vR 2), some (vI root), some (vI x)], [vI (rd m11 x)], LAY (u (u A 11 m11) 78 l) F, 0, 0)) hc34 4 rfl ⟨⟨by omega, by omega⟩, trivial⟩ ?_
        refine R_if (t := 49) hc34 rfl rfl (fun (c2 : rd m11 x = 0) => ?_) (fun (c2 : ¬ (rd m11 x = 0)) => ?_)
        · refine R_s (P := inI (x + 1) ∧ True) (f' := (11, [some (vR 74), some (vR 2), some (vI root), some (vI (x + 1))], [], LAY (u (u A 11 m11) 78 l) F, 0, 0)) hc34 2 rfl ⟨⟨by omega, by omega⟩, trivial⟩ ?_
          refine ih (i + 1) _ _ (by omega) hl (fun p hp => ?_) (by omega) (by omega)
          have g5 := g2 (by omega)
          have g6 := hz p hp
          rw [g6]
          by_cases e3 : p < i
          · have e4 : p < i + 1 := by omega
            simp only [e3, e4, true_and]
          · rw [if_neg (fun q => e3 q.1), if_neg]
            intro q
            have e2 : p = i := by omega
            subst e2
            rw [if_pos q.2.1] at g5
            omega
        · refine R_s (P := (0 ≤ x ∧ x < ((A 8).length : Int)) ∧ True) (f' := (34, [some (vR 74), some (vR 2), some (vI root), some (vI x)], [vI (rd (A 8) x)], LAY (u (u A 11 m11) 78 l) F, 0, 0)) hc34 4 rfl ⟨⟨by omega, by omega⟩, trivial⟩ ?_
          refine R_if (t := 49) hc34 rfl rfl (fun (c3 : rd (A 8) x = 0) => ?_) (fun (c3 : ¬ (rd (A 8) x = 0)) => ?_)
          · refine R_s (P := inI (x + 1) ∧ True) (f' := (11, [some (vR 74), some (vR 2), some (vI root), some (vI (x + 1))], [], LAY (u (u A 11 m11) 78 l) F, 0, 0)) hc34 2 rfl ⟨⟨by omega, by omega⟩, trivial⟩ ?_
            refine ih (i + 1) _ _ (by omega) hl (fun p hp => ?_) (by omega) (by omega)
            have g5 := g2 (by omega)
            have g6 := hz p hp
            rw [g6]
            by_cases e3 : p < i
            · have e4 : p < i + 1 := by omega
              simp only [e3, e4, true_and]
            · rw [if_neg (fun q => e3 q.1), if_neg]
              intro q
              have e2 : p = i := by omega
              subst e2
              rw [if_pos q.2.1] at g5
              omega
          · refine R_s (P := (0 ≤ root ∧ root < ((A 9).length : Int)) ∧ (0 ≤ x ∧ x < ((l).length : Int)) ∧ inI (x + 1) ∧ True) (f' := (11, [some (vR 74), some (vR 2), some (vI root), some (vI (x + 1))], [], LAY (u (u A 11 m11) 78 (wr l x (rd (A 9) root))) F, 0, 0)) hc34 10 rfl ⟨⟨by omega, by omega⟩, ⟨by omega, by omega⟩, ⟨by omega, by omega⟩, trivial⟩ ?_
            refine ih (i + 1) _ _ (by omega) (by rw [wr_len]; exact hl) (fun p hp => ?_) (by omega) (by omega)
            have g5 := g2 (by omega)
            have g6 := hz p hp
            rw [rd_wr (by omega) (by omega) (by omega)]
            by_cases e : (p : Int) = x
            · have e2 : p = i := by omega
              rw [if_pos e, h9r]
              subst e2
              rw [if_pos]
              refine ⟨by omega, ?_, by omega⟩
              revert g5
              split <;> omega
            · rw [if_neg e, g6]
              by_cases e3 : p < i
              · have e4 : p < i + 1 := by omega
                simp only [e3, e4, true_and]
              · have e4 : ¬ p < i + 1 := by omega
                simp only [e3, e4, false_and]
  refine R_s (P := True) (f' := (11, [some (vR 74), some (vR 2), some (vI root), some (vI 0)], [], LAY (u (u A 11 m11) 78 (A 78)) F, 0, 0)) hc34 0 rfl trivial ?_
  exact lp (n + 1) 0 _ _ rfl h78 (fun p hp => by rw [hz0 p hp, if_neg (by omega)]) (by omega) (by omega)
theorem l_shareByStem {A : Nat → List Int} {F : Nat → Int} {n : Nat} (hL : LENS A) (hn : (n : Int) = F 3) (hn30 : n ≤ 30) (hT : TR (A 3) n) {al : Nat → Int} (hal : ∀ p : Nat, p < n → rd (A 8) p = al p) (ha : ∀ p : Nat, p < n → al p = 0 ∨ al p = 1) (hCH : ∀ p : Nat, p < n → rd (A 9) p = CN (A 3) n al p ∧ rd (A 10) p = HR (A 3) n al p) {root : Int} {ro : Nat} (hro : root = ro) (hr : ro < n) (hz0 : ∀ p : Nat, p < n → rd (A 78) p = 0) : R 35 (0, L0 35 [vR 74, vR 2, vI root], [], LAY A F, 0, 0) (fun r G => r = none ∧ ∃ l78, G = LAY (u A 78 l78) F ∧ l78.length = 30 ∧ ∀ p : Nat, p < n → rd l78 p = if al p = 1 then SH (A 3) n al ro p else 0) := by
  have h3 : (A 3).length = 30 := hL 3 (by decide)
  have h8 : (A 8).length = 30 := hL 8 (by decide)
  have h9 : (A 9).length = 30 := hL 9 (by decide)
  have h10 : (A 10).length = 30 := hL 10 (by decide)
  have h78 : (A 78).length = 30 := hL 78 (by decide)
  have lp2 : ∀ (m i : Nat) (x : Int) (y : Option AV) (l : List Int), x = (i : Int) → l.length = 30 → (∀ p : Nat, p < n → rd l p = if p < i ∧ al p = 0 then 0 else SH (A 3) n al ro p) → i ≤ n → n + 1 ≤ i + m → R 35 (84, [some (vR 74), some (vR 2), some (vI root), some (vI x), y], [], LAY (u A 78 l) F, 0, 0) (fun r G => r = none ∧ ∃ l78, G = LAY (u A 78 l78) F ∧ l78.length = 30 ∧ ∀ p : Nat, p < n → rd l78 p = if al p = 1 then SH (A 3) n al ro p else 0) := by
    intro m
    induction m with
    | zero =>
      intro i x y l ex hl hz hi hm
      exact absurd hm (by omega)
    | succ m ih =>
      intro i x y l ex hl hz hi hm
      have g1 := hal i
      have g3 := ha i
      rw [← ex] at g1
      refine R_s (P := True) (f' := (89, [some (vR 74), some (vR 2), some (vI root), some (vI x), y], [vI (F 3), vI x], LAY (u A 78 l) F, 0, 0)) hc35 3 rfl trivial ?_
      refine R_ic (t := 114) hc35 rfl rfl (fun (c1 : F 3 ≤ x) => ?_) (fun (c1 : ¬ (F 3 ≤ x)) => ?_)
      · refine R_retv hc35 rfl rfl ⟨rfl, l, rfl, hl, fun p hp => ?_⟩
        have g6 := hz p hp
        have g7 := ha p hp
        rw [g6]
        by_cases e : al p = 1
        · rw [if_pos e, if_neg (fun q => by omega)]
        · rw [if_neg e, if_pos ⟨by omega, by omega⟩]
      · refine R_s (P := (0 ≤ x ∧ x < ((A 8).length : Int)) ∧ True) (f' := (98, [some (vR 74), some (vR 2), some (vI root), some (vI x), y], [vI (rd (A 8) x)], LAY (u A 78 l) F, 0, 0)) hc35 4 rfl ⟨⟨by omega, by omega⟩, trivial⟩ ?_
        refine R_if (t := 108) hc35 rfl rfl (fun (c2 : ¬ rd (A 8) x = 0) => ?_) (fun (c2 : ¬ (¬ rd (A 8) x = 0)) => ?_)
        · refine R_s (P := inI (x + 1) ∧ True) (f' := (84, [some (vR 74), some (vR 2), some (vI root), some (vI (x + 1)), y], [], LAY (u A 78 l) F, 0, 0)) hc35 2 rfl ⟨⟨by omega, by omega⟩, trivial⟩ ?_
          refine ih (i + 1) _ _ _ (by omega) hl (fun p hp => ?_) (by omega) (by omega)
          have g6 := hz p hp
          rw [g6]
          by_cases e3 : p < i
          · have e4 : p < i + 1 := by omega
            simp only [e3, e4, true_and]
          · rw [if_neg (fun q => e3 q.1), if_neg]
            intro q
            have e2 : p = i := by omega
            subst e2
            omega
        · refine R_s (P := (0 ≤ x ∧ x < ((l).length : Int)) ∧ inI (x + 1) ∧ True) (f' := (84, [some (vR 74), some (vR 2), some (vI root), some (vI (x + 1)), y], [], LAY (u A 78 (wr l x 0)) F, 0, 0)) hc35 7 rfl ⟨⟨by omega, by omega⟩, ⟨by omega, by omega⟩, trivial⟩ ?_
          refine ih (i + 1) _ _ _ (by omega) (by rw [wr_len]; exact hl) (fun p hp => ?_) (by omega) (by omega)
          have g6 := hz p hp
          rw [rd_wr (by omega) (by omega) (by omega)]
          by_cases e : (p : Int) = x
          · have e2 : p = i := by omega
            rw [if_pos e]
            subst e2
            rw [if_pos ⟨by omega, by omega⟩]
          · rw [if_neg e, g6]
            by_cases e3 : p < i
            · have e4 : p < i + 1 := by omega
              simp only [e3, e4, true_and]
            · have e4 : ¬ p < i + 1 := by omega
              simp only [e3, e4, false_and]
  have lp1 : ∀ (m i : Nat) (x : Int) (y : Option AV) (l : List Int), x = (i : Int) → l.length = 30 → (∀ p : Nat, p < n → rd l p = if p < i then SH (A 3) n al ro p else 0) → ro < i → i ≤ n → n + 1 ≤ i + m → R 35 (11, [some (vR 74), some (vR 2), some (vI root), some (vI x), y], [], LAY (u A 78 l) F, 0, 0) (fun r G => r = none ∧ ∃ l78, G = LAY (u A 78 l78) F ∧ l78.length = 30 ∧ ∀ p : Nat, p < n → rd l78 p = if al p = 1 then SH (A 3) n al ro p else 0) := by
    intro m
    induction m with
    | zero =>
      intro i x y l ex hl hz hri hi hm
      exact absurd hm (by omega)
    | succ m ih =>
      intro i x y l ex hl hz hri hi hm
      have hTi := hT i
      have h9i := hCH i
      have sb := SH_bd (al := al) (root := ro) hT hn30 (p := i)
      have se := SH_eq (al := al) (root := ro) (p := i) hT
      rw [← ex] at hTi h9i se
      have hp8 : 0 ≤ rd (A 3) x → rd (A 3) x < F 3 → rd (A 8) (rd (A 3) x) = al (rd (A 3) x).toNat ∧ rd (A 10) (rd (A 3) x) = HR (A 3) n al (rd (A 3) x).toNat := fun q1 q2 => by
        have z1 := hal (rd (A 3) x).toNat (by omega)
        have z2 := (hCH (rd (A 3) x).toNat (by omega)).2
        rw [show (((rd (A 3) x).toNat : Nat) : Int) = rd (A 3) x by omega] at z1 z2
        exact ⟨z1, z2⟩
      have hl8 : 0 ≤ rd (A 3) x → rd (A 3) x < x → i < n → rd l (rd (A 3) x) = SH (A 3) n al ro (rd (A 3) x).toNat := fun q1 q2 q3 => by
        have z1 := hz (rd (A 3) x).toNat (by omega)
        rw [show (((rd (A 3) x).toNat : Nat) : Int) = rd (A 3) x by omega, if_pos (by omega)] at z1
        exact z1
      refine R_s (P := True) (f' := (16, [some (vR 74), some (vR 2), some (vI root), some (vI x), y], [vI (F 3), vI x], LAY (u A 78 l) F, 0, 0)) hc35 3 rfl trivial ?_
      refine R_ic (t := 82) hc35 rfl rfl (fun (c1 : F 3 ≤ x) => ?_) (fun (c1 : ¬ (F 3 ≤ x)) => ?_)
      · refine R_s (P := True) (f' := (84, [some (vR 74), some (vR 2), some (vI root), some (vI root), y], [], LAY (u A 78 l) F, 0, 0)) hc35 2 rfl trivial ?_
        refine lp2 (n + 1) ro _ _ _ hro hl (fun p hp => ?_) (by omega) (by omega)
        rw [hz p hp, if_pos (by omega)]
        split
        · rename_i q
          exact SH_lt q.1
        · rfl
      · refine R_s (P := (0 ≤ x ∧ x < ((A 3).length : Int)) ∧ True) (f' := (30, [some (vR 74), some (vR 2), some (vI root), some (vI x), some (vI (rd (A 3) x))], [vI (rd (A 3) x), vR 2], LAY (u A 78 l) F, 0, 0)) hc35 7 rfl ⟨⟨by omega, by omega⟩, trivial⟩ ?_
        refine R_cv hc35 rfl rfl ?_ (fun r G h => h)
        refine R_s (P := True) (f' := (1, [some (vR 2), some (vI (rd (A 3) x))], [vI (rd (A 3) x)], LAY (u A 78 l) F, 0, 0)) hc5 1 rfl trivial ?_
        refine R_if (t := 16) hc5 rfl rfl (fun (c2 : rd (A 3) x < 0) => ?_) (fun (c2 : ¬ (rd (A 3) x < 0)) => ?_)
        · refine R_s (P := True) (f' := (17, [some (vR 2), some (vI (rd (A 3) x))], [vI 0], LAY (u A 78 l) F, 0, 0)) hc5 1 rfl trivial ?_
          refine R_retz hc5 rfl rfl (Or.inl rfl) ?_
          refine R_s (f' := (33, [some (vR 74), some (vR 2), some (vI root), some (vI x), some (vI (rd (A 3) x))], [vI 0], LAY (u A 78 l) F, 0, 0)) hc35 0 rfl trivial ?_
          refine R_if (t := 76) hc35 rfl rfl (fun (_ : 0 = 0) => ?_) (fun (z : ¬ (0 = 0)) => absurd (by decide) z)
          refine R_s (P := inI (x + 1) ∧ True) (f' := (11, [some (vR 74), some (vR 2), some (vI root), some (vI (x + 1)), some (vI (rd (A 3) x))], [], LAY (u A 78 l) F, 0, 0)) hc35 2 rfl ⟨⟨by omega, by omega⟩, trivial⟩ ?_
          refine ih (i + 1) _ _ _ (by omega) hl (fun p hp => ?_) (by omega) (by omega) (by omega)
          have g6 := hz p hp
          have se2 := se (by omega) (by omega)
          rw [g6]
          by_cases e3 : p < i
          · rw [if_pos e3, if_pos (by omega)]
          · rw [if_neg e3]
            by_cases e4 : p < i + 1
            · have e2 : p = i := by omega
              rw [if_pos e4, e2, se2, if_neg]
              intro q
              have q2 := hp8
              omega
            · rw [if_neg e4]
        · refine R_s (P := True) (f' := (9, [some (vR 2), some (vI (rd (A 3) x))], [vI (F 3), vI (rd (A 3) x)], LAY (u A 78 l) F, 0, 0)) hc5 3 rfl trivial ?_
          refine R_ic (t := 16) hc5 rfl rfl (fun (c3 : F 3 ≤ rd (A 3) x) => ?_) (fun (c3 : ¬ (F 3 ≤ rd (A 3) x)) => ?_)
          · refine R_s (P := True) (f' := (17, [some (vR 2), some (vI (rd (A 3) x))], [vI 0], LAY (u A 78 l) F, 0, 0)) hc5 1 rfl trivial ?_
            refine R_retz hc5 rfl rfl (Or.inl rfl) ?_
            refine R_s (f' := (33, [some (vR 74), some (vR 2), some (vI root), some (vI x), some (vI (rd (A 3) x))], [vI 0], LAY (u A 78 l) F, 0, 0)) hc35 0 rfl trivial ?_
            refine R_if (t := 76) hc35 rfl rfl (fun (_ : 0 = 0) => ?_) (fun (z : ¬ (0 = 0)) => absurd (by decide) z)
            refine R_s (P := inI (x + 1) ∧ True) (f' := (11, [some (vR 74), some (vR 2), some (vI root), some (vI (x + 1)), some (vI (rd (A 3) x))], [], LAY (u A 78 l) F, 0, 0)) hc35 2 rfl ⟨⟨by omega, by omega⟩, trivial⟩ ?_
            refine ih (i + 1) _ _ _ (by omega) hl (fun p hp => ?_) (by omega) (by omega) (by omega)
            have g6 := hz p hp
            have se2 := se (by omega) (by omega)
            rw [g6]
            by_cases e3 : p < i
            · rw [if_pos e3, if_pos (by omega)]
            · rw [if_neg e3]
              by_cases e4 : p < i + 1
              · have e2 : p = i := by omega
                rw [if_pos e4, e2, se2, if_neg]
                intro q
                have q2 := hp8
                omega
              · rw [if_neg e4]
          · refine R_s (P := True) (f' := (17, [some (vR 2), some (vI (rd (A 3) x))], [vI 1], LAY (u A 78 l) F, 0, 0)) hc5 2 rfl trivial ?_
            refine R_retz hc5 rfl rfl (Or.inr rfl) ?_
            refine R_s (f' := (33, [some (vR 74), some (vR 2), some (vI root), some (vI x), some (vI (rd (A 3) x))], [vI 1], LAY (u A 78 l) F, 0, 0)) hc35 0 rfl trivial ?_
            refine R_if (t := 76) hc35 rfl rfl (fun (z : 1 = 0) => absurd z (by decide)) (fun (_ : ¬ (1 = 0)) => ?_)
            refine R_s (P := (0 ≤ rd (A 3) x ∧ rd (A 3) x < ((A 8).length : Int)) ∧ True) (f' := (43, [some (vR 74), some (vR 2), some (vI root), some (vI x), some (vI (rd (A 3) x))], [vI (rd (A 8) (rd (A 3) x))], LAY (u A 78 l) F, 0, 0)) hc35 4 rfl ⟨⟨by omega, by omega⟩, trivial⟩ ?_
            refine R_if (t := 76) hc35 rfl rfl (fun (c5 : ¬ rd (A 8) (rd (A 3) x) = 0) => ?_) (fun (c5 : ¬ (¬ rd (A 8) (rd (A 3) x) = 0)) => ?_)
            · refine R_s (P := inI (x + 1) ∧ True) (f' := (11, [some (vR 74), some (vR 2), some (vI root), some (vI (x + 1)), some (vI (rd (A 3) x))], [], LAY (u A 78 l) F, 0, 0)) hc35 2 rfl ⟨⟨by omega, by omega⟩, trivial⟩ ?_
              refine ih (i + 1) _ _ _ (by omega) hl (fun p hp => ?_) (by omega) (by omega) (by omega)
              have g6 := hz p hp
              have se2 := se (by omega) (by omega)
              rw [g6]
              by_cases e3 : p < i
              · rw [if_pos e3, if_pos (by omega)]
              · rw [if_neg e3]
                by_cases e4 : p < i + 1
                · have e2 : p = i := by omega
                  rw [if_pos e4, e2, se2, if_neg]
                  intro q
                  have q2 := hp8
                  omega
                · rw [if_neg e4]
            · refine R_s (P := (0 ≤ x ∧ x < ((A 9).length : Int)) ∧ True) (f' := (52, [some (vR 74), some (vR 2), some (vI root), some (vI x), some (vI (rd (A 3) x))], [vI (rd (A 9) x)], LAY (u A 78 l) F, 0, 0)) hc35 4 rfl ⟨⟨by omega, by omega⟩, trivial⟩ ?_
              refine R_if (t := 76) hc35 rfl rfl (fun (c6 : rd (A 9) x ≤ 0) => ?_) (fun (c6 : ¬ (rd (A 9) x ≤ 0)) => ?_)
              · refine R_s (P := inI (x + 1) ∧ True) (f' := (11, [some (vR 74), some (vR 2), some (vI root), some (vI (x + 1)), some (vI (rd (A 3) x))], [], LAY (u A 78 l) F, 0, 0)) hc35 2 rfl ⟨⟨by omega, by omega⟩, trivial⟩ ?_
                refine ih (i + 1) _ _ _ (by omega) hl (fun p hp => ?_) (by omega) (by omega) (by omega)
                have g6 := hz p hp
                have se2 := se (by omega) (by omega)
                rw [g6]
                by_cases e3 : p < i
                · rw [if_pos e3, if_pos (by omega)]
                · rw [if_neg e3]
                  by_cases e4 : p < i + 1
                  · have e2 : p = i := by omega
                    rw [if_pos e4, e2, se2, if_neg]
                    intro q
                    have q2 := hp8
                    omega
                  · rw [if_neg e4]
              · refine R_s (P := (0 ≤ rd (A 3) x ∧ rd (A 3) x < ((l).length : Int)) ∧ (0 ≤ rd (A 3) x ∧ rd (A 3) x < ((A 10).length : Int)) ∧ inI ((rd l (rd (A 3) x)) * (rd (A 10) (rd (A 3) x))) ∧ (0 ≤ x ∧ x < ((l).length : Int)) ∧ inI (x + 1) ∧ True) (f' := (11, [some (vR 74), some (vR 2), some (vI root), some (vI (x + 1)), some (vI (rd (A 3) x))], [], LAY (u A 78 (wr l x ((rd l (rd (A 3) x)) * (rd (A 10) (rd (A 3) x))))) F, 0, 0)) hc35 15 rfl ⟨⟨by omega, by omega⟩, ⟨by omega, by omega⟩, (by have q2 := hp8 (by omega) (by omega); have q3 := hl8 (by omega) (by omega) (by omega); have q4 := se (by omega) (by omega); rw [if_pos ⟨by omega, by omega, by omega⟩] at q4; rw [q2.2, q3, ← q4]; unfold inI; omega), ⟨by omega, by omega⟩, ⟨by omega, by omega⟩, trivial⟩ ?_
                refine ih (i + 1) _ _ _ (by omega) (by rw [wr_len]; exact hl) (fun p hp => ?_) (by omega) (by omega) (by omega)
                have g6 := hz p hp
                have se2 := se (by omega) (by omega)
                rw [rd_wr (by omega) (by omega) (by omega)]
                by_cases e : (p : Int) = x
                · have e2 : p = i := by omega
                  rw [if_pos e, if_pos (by omega), e2, se2, if_pos ⟨by omega, by omega, by omega⟩, (hp8 (by omega) (by omega)).2, hl8 (by omega) (by omega) (by omega)]
                · rw [if_neg e, g6]
                  by_cases e3 : p < i
                  · rw [if_pos e3, if_pos (by omega)]
                  · rw [if_neg e3, if_neg (by omega)]
  refine R_s (P := (0 ≤ root ∧ root < ((A 78).length : Int)) ∧ inI (root + 1) ∧ True) (f' := (11, [some (vR 74), some (vR 2), some (vI root), some (vI (root + 1)), none], [], LAY (u A 78 (wr (A 78) root 1)) F, 0, 0)) hc35 9 rfl ⟨⟨by omega, by omega⟩, ⟨by omega, by omega⟩, trivial⟩ ?_
  refine lp1 (n + 1) (ro + 1) _ _ _ (by omega) (by rw [wr_len]; exact h78) (fun p hp => ?_) (by omega) (by omega) (by omega)
  rw [rd_wr (by omega) (by omega) (by omega)]
  by_cases e : (p : Int) = root
  · rw [if_pos e, if_pos (by omega), show p = ro by omega, SH_self]
  · rw [if_neg e, hz0 p hp]
    split
    · exact (SH_lt (by omega)).symm
    · rfl
theorem l_setShares {A : Nat → List Int} {F : Nat → Int} {n : Nat} (hL : LENS A) (hn : (n : Int) = F 3) (hn30 : n ≤ 30) (hT : TR (A 3) n) {al : Nat → Int} (hal : ∀ p : Nat, p < n → rd (A 8) p = al p) (ha : ∀ p : Nat, p < n → al p = 0 ∨ al p = 1) (hCH : ∀ p : Nat, p < n → rd (A 9) p = CN (A 3) n al p ∧ rd (A 10) p = HR (A 3) n al p) {root : Int} {ro : Nat} (hro : root = ro) (hr : ro < n) {how : Int} (hhow : how = 0 ∨ how = 1) : R 33 (0, L0 33 [vR 74, vR 2, vI root, vI how], [], LAY A F, 0, 0) (fun r G => r = none ∧ ∃ l11 l78, G = LAY (u (u A 11 l11) 78 l78) F ∧ l11.length = 30 ∧ l78.length = 30 ∧ ∀ p : Nat, p < n → rd l78 p = SF (A 3) n al how ro p) := by
  have h3 : (A 3).length = 30 := hL 3 (by decide)
  have h8 : (A 8).length = 30 := hL 8 (by decide)
  have h9 : (A 9).length = 30 := hL 9 (by decide)
  have h10 : (A 10).length = 30 := hL 10 (by decide)
  have h11 : (A 11).length = 30 := hL 11 (by decide)
  have h78 : (A 78).length = 30 := hL 78 (by decide)
  have h9r := (hCH ro hr).1
  rw [← hro] at h9r
  have cb := CN_bd (P := A 3) ha ro
  have lp : ∀ (m i : Nat) (x : Int) (l : List Int), x = (i : Int) → l.length = 30 → (∀ p : Nat, p < i → rd l p = 0) → i ≤ 30 → 30 + 1 ≤ i + m → R 33 (3, [some (vR 74), some (vR 2), some (vI root), some (vI how), some (vI x)], [], LAY (u A 78 l) F, 0, 0) (fun r G => r = none ∧ ∃ l11 l78, G = LAY (u (u A 11 l11) 78 l78) F ∧ l11.length = 30 ∧ l78.length = 30 ∧ ∀ p : Nat, p < n → rd l78 p = SF (A 3) n al how ro p) := by
    intro m
    induction m with
    | zero =>
      intro i x l ex hl hz hi hm
      exact absurd hm (by omega)
    | succ m ih =>
      intro i x l ex hl hz hi hm
      refine R_s (P := True) (f' := (7, [some (vR 74), some (vR 2), some (vI root), some (vI how), some (vI x)], [vI 30, vI x], LAY (u A 78 l) F, 0, 0)) hc33 2 rfl trivial ?_
      refine R_ic (t := 24) hc33 rfl rfl (fun (c1 : 30 ≤ x) => ?_) (fun (c1 : ¬ (30 ≤ x)) => ?_)
      · refine R_s (P := True) (f' := (26, [some (vR 74), some (vR 2), some (vI root), some (vI how), some (vI x)], [vI root, vR 2], LAY (u A 78 l) F, 0, 0)) hc33 2 rfl trivial ?_
        refine R_cv hc33 rfl rfl ?_ (fun r G h => h)
        refine R_s (P := True) (f' := (1, [some (vR 2), some (vI root)], [vI root], LAY (u A 78 l) F, 0, 0)) hc5 1 rfl trivial ?_
        refine R_if (t := 16) hc5 rfl rfl (fun (z : root < 0) => absurd z (by omega)) (fun (_ : ¬ (root < 0)) => ?_)
        refine R_s (P := True) (f' := (9, [some (vR 2), some (vI root)], [vI (F 3), vI root], LAY (u A 78 l) F, 0, 0)) hc5 3 rfl trivial ?_
        refine R_ic (t := 16) hc5 rfl rfl (fun (z : F 3 ≤ root) => absurd z (by omega)) (fun (_ : ¬ (F 3 ≤ root)) => ?_)
        refine R_s (P := True) (f' := (17, [some (vR 2), some (vI root)], [vI 1], LAY (u A 78 l) F, 0, 0)) hc5 2 rfl trivial ?_
        refine R_retz hc5 rfl rfl (Or.inr rfl) ?_
        refine R_s (f' := (29, [some (vR 74), some (vR 2), some (vI root), some (vI how), some (vI x)], [vI 1], LAY (u A 78 l) F, 0, 0)) hc33 0 rfl trivial ?_
        refine R_if (t := 41) hc33 rfl rfl (fun (z : 1 = 0) => absurd z (by decide)) (fun (_ : ¬ (1 = 0)) => ?_)
        refine R_s (P := (0 ≤ root ∧ root < ((A 9).length : Int)) ∧ True) (f' := (38, [some (vR 74), some (vR 2), some (vI root), some (vI how), some (vI x)], [vI (rd (A 9) root)], LAY (u A 78 l) F, 0, 0)) hc33 4 rfl ⟨⟨by omega, by omega⟩, trivial⟩ ?_
        refine R_if (t := 42) hc33 rfl rfl (fun (c5 : ¬ rd (A 9) root = 0) => ?_) (fun (c5 : ¬ (¬ rd (A 9) root = 0)) => ?_)
        · refine R_s (P := True) (f' := (43, [some (vR 74), some (vR 2), some (vI root), some (vI how), some (vI x)], [vI how], LAY (u A 78 l) F, 0, 0)) hc33 1 rfl trivial ?_
          refine R_if (t := 55) hc33 rfl rfl (fun (c6 : how = 0) => ?_) (fun (c6 : ¬ (how = 0)) => ?_)
          · refine R_s (P := True) (f' := (58, [some (vR 74), some (vR 2), some (vI root), some (vI how), some (vI x)], [vI root, vR 2, vR 74], LAY (u A 78 l) F, 0, 0)) hc33 3 rfl trivial ?_
            refine R_cv hc33 rfl rfl (l_shareByStem (A := u A 78 l) (LENS_u hL (by rw [hl, h78])) hn hn30 hT hal ha hCH hro hr (fun p hp => hz p (by omega))) (fun r G9 hp9 => ?_)
            obtain ⟨rfl, l78, rfl, hl78, hq⟩ := hp9
            refine R_s (f' := (61, [some (vR 74), some (vR 2), some (vI root), some (vI how), some (vI x)], [], LAY (u A 78 l78) F, 0, 0)) hc33 0 rfl trivial ?_
            exact R_retv hc33 rfl rfl ⟨rfl, A 11, l78, rfl, h11, hl78, fun p hp => by unfold SF; rw [if_neg (by omega), if_neg (by omega)]; exact hq p hp⟩
          · refine R_s (P := True) (f' := (49, [some (vR 74), some (vR 2), some (vI root), some (vI how), some (vI x)], [vI root, vR 2, vR 74], LAY (u A 78 l) F, 0, 0)) hc33 3 rfl trivial ?_
            refine R_cv hc33 rfl rfl (l_shareByHeads (A := u A 78 l) (LENS_u hL (by rw [hl, h78])) hn hn30 hT hal ha hCH hro hr (fun p hp => hz p (by omega))) (fun r G9 hp9 => ?_)
            obtain ⟨rfl, l11, l78, rfl, hl11, hl78, hq⟩ := hp9
            refine R_s (f' := (52, [some (vR 74), some (vR 2), some (vI root), some (vI how), some (vI x)], [], LAY (u (u A 11 l11) 78 l78) F, 0, 0)) hc33 0 rfl trivial ?_
            refine R_s (P := True) (f' := (61, [some (vR 74), some (vR 2), some (vI root), some (vI how), some (vI x)], [], LAY (u (u A 11 l11) 78 l78) F, 0, 0)) hc33 1 rfl trivial ?_
            exact R_retv hc33 rfl rfl ⟨rfl, l11, l78, rfl, hl11, hl78, fun p hp => by unfold SF; rw [if_neg (by omega), if_pos (by omega)]; exact hq p hp⟩
        · exact R_retv hc33 rfl rfl ⟨rfl, A 11, l, rfl, h11, hl, fun p hp => by rw [hz p (by omega)]; unfold SF; rw [if_pos (by omega)]⟩
      · refine R_s (P := (0 ≤ x ∧ x < ((l).length : Int)) ∧ inI (x + 1) ∧ True) (f' := (3, [some (vR 74), some (vR 2), some (vI root), some (vI how), some (vI (x + 1))], [], LAY (u A 78 (wr l x 0)) F, 0, 0)) hc33 7 rfl ⟨⟨by omega, by omega⟩, ⟨by omega, by omega⟩, trivial⟩ ?_
        exact ih (i + 1) _ _ (by omega) (by rw [wr_len]; exact hl) (fun p hp => by rw [rd_wr (by omega) (by omega) (by omega)]; split <;> first | rfl | exact hz p (by omega)) (by omega) (by omega)
  refine R_s (P := True) (f' := (0, [some (vR 74), some (vR 2), some (vI root), some (vI how), none], [], LAY (u A 78 (A 78)) F, 0, 0)) hc33 0 (by rw [u_self]; rfl) trivial ?_
  refine R_s (P := True) (f' := (3, [some (vR 74), some (vR 2), some (vI root), some (vI how), some (vI 0)], [], LAY (u A 78 (A 78)) F, 0, 0)) hc33 2 rfl trivial ?_
  exact lp 31 0 _ _ rfl h78 (fun p hp => absurd hp (by omega)) (by omega) (by omega)
