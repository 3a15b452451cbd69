theorem l_countLines {A : Nat → List Int} {F : Nat → Int} {n : Nat} (hL : LENS A) (hn : (n : Int) = F 3) (hn30 : n ≤ 30) (hT : TR (A 3) n) {al : Nat → Int} (hal : ∀ p : Nat, p < n → rd (A 8) p = al p) (ha : ∀ p : Nat, p < n → al p = 0 ∨ al p = 1)  : R 15 (0, L0 15 [vR 2], [], LAY A F, 0, 0) (fun r G => r = none ∧ ∃ l9 l10, G = LAY (u (u A 9 l9) 10 l10) F ∧ l9.length = 30 ∧ l10.length = 30 ∧ ∀ p : Nat, p < n → rd l9 p = CN (A 3) n al p ∧ rd l10 p = HR (A 3) n al p) := by
  have h3 : (A 3).length = 30 := hL 3 (by decide)
  have h8 : (A 8).length = 30 := hL 8 (by decide)
  have h9 : (A 9).length = 30 := hL 9 (by decide)
  have h10 : (A 10).length = 30 := hL 10 (by decide)
  have lp2 : ∀ (m i : Nat) (x : Int) (y : Option AV) (l9 : List Int) (l10 : List Int), x = (n : Int) - i - 1 → l9.length = 30 → l10.length = 30 → (∀ p : Nat, p < n → rd l9 p = VV (A 3) n al (n - i) p ∧ rd l10 p = HT (A 3) n al (n - i) p) → i ≤ n → n + 1 ≤ i + m → R 15 (50, [some (vR 2), some (vI x), y], [], LAY (u (u A 9 l9) 10 l10) F, 0, 0) (fun r G => r = none ∧ ∃ l9 l10, G = LAY (u (u A 9 l9) 10 l10) F ∧ l9.length = 30 ∧ l10.length = 30 ∧ ∀ p : Nat, p < n → rd l9 p = CN (A 3) n al p ∧ rd l10 p = HR (A 3) n al p) := by
    intro m
    induction m with
    | zero =>
      intro i x y l9 l10 ex hl9 hl10 hz hi hm
      exact absurd hm (by omega)
    | succ m ih =>
      intro i x y l9 l10 ex hl9 hl10 hz hi hm
      have b9 : ∀ p : Nat, p < n → 0 ≤ rd l9 p ∧ rd l9 p ≤ 30 ∧ 0 ≤ rd l10 p ∧ rd l10 p ≤ 30 := fun p hp => by
        have z := hz p hp
        have z1 := VV_bd (P := A 3) (q := n - i) ha p
        have z2 := HT_bd (P := A 3) (n := n) (t := n - i) (p := p) (al := al)
        omega
      have bx : 0 ≤ x → 0 ≤ rd l9 x ∧ rd l9 x ≤ 30 := fun q => by
        have := b9 x.toNat (by omega)
        rw [show ((x.toNat : Nat) : Int) = x by omega] at this
        omega
      have bp : 0 ≤ rd (A 3) x → rd (A 3) x < F 3 → 0 ≤ rd l9 (rd (A 3) x) ∧ rd l9 (rd (A 3) x) ≤ 30 ∧ 0 ≤ rd l10 (rd (A 3) x) ∧ rd l10 (rd (A 3) x) ≤ 30 := fun q q2 => by
        have := b9 (rd (A 3) x).toNat (by omega)
        rw [show (((rd (A 3) x).toNat : Nat) : Int) = rd (A 3) x by omega] at this
        exact this
      refine R_s (P := True) (f' := (51, [some (vR 2), some (vI x), y], [vI x], LAY (u (u A 9 l9) 10 l10) F, 0, 0)) hc15 1 rfl trivial ?_
      refine R_if (t := 113) hc15 rfl rfl (fun (c1 : x < 0) => ?_) (fun (c1 : ¬ (x < 0)) => ?_)
      · exact R_retv hc15 rfl rfl ⟨rfl, l9, l10, rfl, hl9, hl10, fun p hp => by have z := hz p hp; rw [show n - i = 0 by omega] at z; exact z⟩
      · refine R_s (P := (0 ≤ x ∧ x < ((A 3).length : Int)) ∧ True) (f' := (62, [some (vR 2), some (vI x), some (vI (rd (A 3) x))], [vI (rd (A 3) x)], LAY (u (u A 9 l9) 10 l10) F, 0, 0)) hc15 6 rfl ⟨⟨by omega, by omega⟩, trivial⟩ ?_
        refine R_if (t := 107) hc15 rfl rfl (fun (c2 : rd (A 3) x < 0) => ?_) (fun (c2 : ¬ (rd (A 3) x < 0)) => ?_)
        · refine R_s (P := inI (x + (-1)) ∧ True) (f' := (50, [some (vR 2), some (vI (x + (-1))), some (vI (rd (A 3) x))], [], LAY (u (u A 9 l9) 10 l10) F, 0, 0)) hc15 2 rfl ⟨⟨by omega, by omega⟩, trivial⟩ ?_
          obtain ⟨t, ht, hx⟩ : ∃ t : Nat, n - i = t + 1 ∧ x = (t : Int) := ⟨n - i - 1, by omega, by omega⟩
          have e1 : n - (i + 1) = t := by omega
          have hTt := hT t (by omega)
          refine ih (i + 1) _ _ _ _ (by omega) hl9 hl10 (fun p hp => ?_) (by omega) (by omega)
          rw [e1]
          have v := VV_step al hT (t := t) (by omega) p
          have h := HT_step (P := A 3) al (t := t) (n := n) (by omega) p
          have c := VV_top (p := t) al hT
          have z := hz p hp
          have zt := hz t (by omega)
          rw [ht] at z zt
          have cb := CN_bd (P := A 3) ha t
          subst hx
          by_cases e : (p : Int) = rd (A 3) t
          · rw [if_pos e.symm] at v
            rw [if_neg (fun q => absurd q.2 (by omega))] at h
            omega
          · rw [if_neg (fun q => e q.symm)] at v
            rw [if_neg (fun q => e q.1.symm)] at h
            omega
        · refine R_s (P := True) (f' := (70, [some (vR 2), some (vI x), some (vI (rd (A 3) x))], [vI (F 3), vI (rd (A 3) x)], LAY (u (u A 9 l9) 10 l10) F, 0, 0)) hc15 3 rfl trivial ?_
          refine R_ic (t := 107) hc15 rfl rfl (fun (c3 : F 3 ≤ rd (A 3) x) => ?_) (fun (c3 : ¬ (F 3 ≤ rd (A 3) x)) => ?_)
          · refine R_s (P := inI (x + (-1)) ∧ True) (f' := (50, [some (vR 2), some (vI (x + (-1))), some (vI (rd (A 3) x))], [], LAY (u (u A 9 l9) 10 l10) F, 0, 0)) hc15 2 rfl ⟨⟨by omega, by omega⟩, trivial⟩ ?_
            obtain ⟨t, ht, hx⟩ : ∃ t : Nat, n - i = t + 1 ∧ x = (t : Int) := ⟨n - i - 1, by omega, by omega⟩
            have e1 : n - (i + 1) = t := by omega
            have hTt := hT t (by omega)
            refine ih (i + 1) _ _ _ _ (by omega) hl9 hl10 (fun p hp => ?_) (by omega) (by omega)
            rw [e1]
            have v := VV_step al hT (t := t) (by omega) p
            have h := HT_step (P := A 3) al (t := t) (n := n) (by omega) p
            have c := VV_top (p := t) al hT
            have z := hz p hp
            have zt := hz t (by omega)
            rw [ht] at z zt
            have cb := CN_bd (P := A 3) ha t
            subst hx
            by_cases e : (p : Int) = rd (A 3) t
            · rw [if_pos e.symm] at v
              rw [if_neg (fun q => absurd q.2 (by omega))] at h
              omega
            · rw [if_neg (fun q => e q.symm)] at v
              rw [if_neg (fun q => e q.1.symm)] at h
              omega
          · refine R_s (P := (0 ≤ x ∧ x < ((l9).length : Int)) ∧ True) (f' := (79, [some (vR 2), some (vI x), some (vI (rd (A 3) x))], [vI (rd l9 x)], LAY (u (u A 9 l9) 10 l10) F, 0, 0)) hc15 4 rfl ⟨⟨by omega, by omega⟩, trivial⟩ ?_
            refine R_if (t := 107) hc15 rfl rfl (fun (c4 : rd l9 x ≤ 0) => ?_) (fun (c4 : ¬ (rd l9 x ≤ 0)) => ?_)
            · refine R_s (P := inI (x + (-1)) ∧ True) (f' := (50, [some (vR 2), some (vI (x + (-1))), some (vI (rd (A 3) x))], [], LAY (u (u A 9 l9) 10 l10) F, 0, 0)) hc15 2 rfl ⟨⟨by omega, by omega⟩, trivial⟩ ?_
              obtain ⟨t, ht, hx⟩ : ∃ t : Nat, n - i = t + 1 ∧ x = (t : Int) := ⟨n - i - 1, by omega, by omega⟩
              have e1 : n - (i + 1) = t := by omega
              have hTt := hT t (by omega)
              refine ih (i + 1) _ _ _ _ (by omega) hl9 hl10 (fun p hp => ?_) (by omega) (by omega)
              rw [e1]
              have v := VV_step al hT (t := t) (by omega) p
              have h := HT_step (P := A 3) al (t := t) (n := n) (by omega) p
              have c := VV_top (p := t) al hT
              have z := hz p hp
              have zt := hz t (by omega)
              rw [ht] at z zt
              have cb := CN_bd (P := A 3) ha t
              subst hx
              by_cases e : (p : Int) = rd (A 3) t
              · rw [if_pos e.symm] at v
                rw [if_neg (fun q => absurd q.2 (by omega))] at h
                omega
              · rw [if_neg (fun q => e q.symm)] at v
                rw [if_neg (fun q => e q.1.symm)] at h
                omega
            · refine R_s (P := (0 ≤ rd (A 3) x ∧ rd (A 3) x < ((l9).length : Int)) ∧ (0 ≤ x ∧ x < ((l9).length : Int)) ∧ inI ((rd l9 (rd (A 3) x)) + (rd l9 x)) ∧ (0 ≤ rd (A 3) x ∧ rd (A 3) x < ((l9).length : Int)) ∧ (0 ≤ rd (A 3) x ∧ rd (A 3) x < ((l10).length : Int)) ∧ inI ((rd l10 (rd (A 3) x)) + 1) ∧ (0 ≤ rd (A 3) x ∧ rd (A 3) x < ((l10).length : Int)) ∧ inI (x + (-1)) ∧ True) (f' := (50, [some (vR 2), some (vI (x + (-1))), some (vI (rd (A 3) x))], [], LAY (u (u A 9 (wr l9 (rd (A 3) x) ((rd l9 (rd (A 3) x)) + (rd l9 x)))) 10 (wr l10 (rd (A 3) x) ((rd l10 (rd (A 3) x)) + 1))) F, 0, 0)) hc15 21 rfl ⟨⟨by omega, by omega⟩, ⟨by omega, by omega⟩, ⟨by omega, by omega⟩, ⟨by omega, by omega⟩, ⟨by omega, by omega⟩, ⟨by omega, by omega⟩, ⟨by omega, by omega⟩, ⟨by omega, by omega⟩, trivial⟩ ?_
              obtain ⟨t, ht, hx⟩ : ∃ t : Nat, n - i = t + 1 ∧ x = (t : Int) := ⟨n - i - 1, by omega, by omega⟩
              have e1 : n - (i + 1) = t := by omega
              have hTt := hT t (by omega)
              refine ih (i + 1) _ _ _ _ (by omega) (by rw [wr_len]; exact hl9) (by rw [wr_len]; exact hl10) (fun p hp => ?_) (by omega) (by omega)
              rw [e1]
              have v := VV_step al hT (t := t) (by omega) p
              have h := HT_step (P := A 3) al (t := t) (n := n) (by omega) p
              have c := VV_top (p := t) al hT
              have z := hz p hp
              have zt := hz t (by omega)
              rw [ht] at z zt
              have cb := CN_bd (P := A 3) ha t
              subst hx
              rw [rd_wr (by omega) (by omega) (by omega), rd_wr (by omega) (by omega) (by omega)]
              by_cases e : (p : Int) = rd (A 3) t
              · rw [if_pos e, if_pos e, ← e]
                rw [if_pos e.symm] at v
                rw [if_pos ⟨e.symm, by omega⟩] at h
                omega
              · rw [if_neg e, if_neg e]
                rw [if_neg (fun q => e q.symm)] at v
                rw [if_neg (fun q => e q.1.symm)] at h
                omega
  have lp1 : ∀ (m i : Nat) (x : Int) (l9 : List Int) (l10 : List Int), x = (i : Int) → l9.length = 30 → l10.length = 30 → (∀ p : Nat, p < i → rd l9 p = al p ∧ rd l10 p = 0) → i ≤ n → n + 1 ≤ i + m → R 15 (2, [some (vR 2), some (vI x), none], [], LAY (u (u A 9 l9) 10 l10) F, 0, 0) (fun r G => r = none ∧ ∃ l9 l10, G = LAY (u (u A 9 l9) 10 l10) F ∧ l9.length = 30 ∧ l10.length = 30 ∧ ∀ p : Nat, p < n → rd l9 p = CN (A 3) n al p ∧ rd l10 p = HR (A 3) n al p) := by
    intro m
    induction m with
    | zero =>
      intro i x l9 l10 ex hl9 hl10 hz hi hm
      exact absurd hm (by omega)
    | succ m ih =>
      intro i x l9 l10 ex hl9 hl10 hz hi hm
      have g1 := hal i
      have g2 := ha i
      rw [← ex] at g1
      refine R_s (P := True) (f' := (7, [some (vR 2), some (vI x), none], [vI (F 3), vI x], LAY (u (u A 9 l9) 10 l10) F, 0, 0)) hc15 3 rfl trivial ?_
      refine R_ic (t := 43) hc15 rfl rfl (fun (c1 : F 3 ≤ x) => ?_) (fun (c1 : ¬ (F 3 ≤ x)) => ?_)
      · refine R_s (P := inI ((F 3) - 1) ∧ True) (f' := (50, [some (vR 2), some (vI ((F 3) - 1)), none], [], LAY (u (u A 9 l9) 10 l10) F, 0, 0)) hc15 5 rfl ⟨⟨by omega, by omega⟩, trivial⟩ ?_
        refine lp2 (n + 1) 0 _ _ _ _ (by omega) hl9 hl10 (fun p hp => ?_) (by omega) (by omega)
        rw [Nat.sub_zero, VV_n al hp, HT_n al]
        exact hz p (by omega)
      · refine R_s (P := (0 ≤ x ∧ x < ((A 8).length : Int)) ∧ True) (f' := (21, [some (vR 2), some (vI x), none], [vI (rd (A 8) x), vI x, vR 9], LAY (u (u A 9 l9) 10 l10) F, 0, 0)) hc15 7 rfl ⟨⟨by omega, by omega⟩, trivial⟩ ?_
        refine R_if (t := 28) hc15 rfl rfl (fun (c2 : rd (A 8) x = 0) => ?_) (fun (c2 : ¬ (rd (A 8) x = 0)) => ?_)
        · refine R_s (P := (0 ≤ x ∧ x < ((l9).length : Int)) ∧ (0 ≤ x ∧ x < ((l10).length : Int)) ∧ inI (x + 1) ∧ True) (f' := (2, [some (vR 2), some (vI (x + 1)), none], [], LAY (u (u A 9 (wr l9 x 0)) 10 (wr l10 x 0)) F, 0, 0)) hc15 9 rfl ⟨⟨by omega, by omega⟩, ⟨by omega, by omega⟩, ⟨by omega, by omega⟩, trivial⟩ ?_
          refine ih (i + 1) _ _ _ (by omega) (by rw [wr_len]; exact hl9) (by rw [wr_len]; exact hl10) (fun p hp => ?_) (by omega) (by omega)
          rw [rd_wr (by omega) (by omega) (by omega), rd_wr (by omega) (by omega) (by omega)]
          by_cases e : (p : Int) = x
          · rw [if_pos e, if_pos e]
            have e2 : p = i := by omega
            subst e2
            omega
          · rw [if_neg e, if_neg e]
            exact hz p (by omega)
        · refine R_s (P := (0 ≤ x ∧ x < ((l9).length : Int)) ∧ (0 ≤ x ∧ x < ((l10).length : Int)) ∧ inI (x + 1) ∧ True) (f' := (2, [some (vR 2), some (vI (x + 1)), none], [], LAY (u (u A 9 (wr l9 x 1)) 10 (wr l10 x 0)) F, 0, 0)) hc15 10 rfl ⟨⟨by omega, by omega⟩, ⟨by omega, by omega⟩, ⟨by omega, by omega⟩, trivial⟩ ?_
          refine ih (i + 1) _ _ _ (by omega) (by rw [wr_len]; exact hl9) (by rw [wr_len]; exact hl10) (fun p hp => ?_) (by omega) (by omega)
          rw [rd_wr (by omega) (by omega) (by omega), rd_wr (by omega) (by omega) (by omega)]
          by_cases e : (p : Int) = x
          · rw [if_pos e, if_pos e]
            have e2 : p = i := by omega
            subst e2
            omega
          · rw [if_neg e, if_neg e]
            exact hz p (by omega)
  refine R_s (P := True) (f' := (0, [some (vR 2), none, none], [], LAY (u (u A 9 (A 9)) 10 (A 10)) F, 0, 0)) hc15 0 (by rw [u_self, u_self]; rfl) trivial ?_
  refine R_s (P := True) (f' := (2, [some (vR 2), some (vI 0), none], [], LAY (u (u A 9 (A 9)) 10 (A 10)) F, 0, 0)) hc15 2 rfl trivial ?_
  exact lp1 (n + 1) 0 _ _ _ rfl h9 h10 (fun p hp => absurd hp (by omega)) (by omega) (by omega)
def rk (yr : Int) (B U : List Int) : Nat → Nat
  | 0 => 0
  | i + 1 => rk yr B U i + (if rd U i ≠ 0 ∧ rd B i ≤ yr then 1 else 0)
theorem rk_bd (yr : Int) (B U : List Int) (i : Nat) : rk yr B U i ≤ i := by
  induction i with
  | zero => exact Nat.le_refl 0
  | succ i ih =>
    simp only [rk]
    split <;> omega
theorem l_wakeT {A : Nat → List Int} {F : Nat → Int} {n : Nat} (hL : LENS A) (hn : (n : Int) = F 3) (hn30 : n ≤ 30) (hT : TR (A 3) n) {yr : Int} {al : Nat → Int} (hU : ∀ p : Nat, p < n → rd (A 6) p = 0 ∨ rd (A 6) p = 1) (hTk : ∀ p : Nat, p < n → rd (A 7) p = 0 ∨ rd (A 7) p = 1) (hal : ∀ p : Nat, p < n → al p = LV yr (A 4) (A 6) (A 5) (fun p => rd (A 7) p) p) : R 14 (0, L0 14 [vR 2, vI yr, vI (-1)], [], LAY A F, 0, 0) (fun r G => r = none ∧ ∃ l8 l9 l10, G = LAY (u (u (u A 8 l8) 9 l9) 10 l10) F ∧ l8.length = 30 ∧ l9.length = 30 ∧ l10.length = 30 ∧ ∀ p : Nat, p < n → rd l8 p = al p ∧ rd l9 p = CN (A 3) n al p ∧ rd l10 p = HR (A 3) n al p) := by
  have h3 : (A 3).length = 30 := hL 3 (by decide)
  have h4 : (A 4).length = 30 := hL 4 (by decide)
  have h5 : (A 5).length = 30 := hL 5 (by decide)
  have h6 : (A 6).length = 30 := hL 6 (by decide)
  have h7 : (A 7).length = 30 := hL 7 (by decide)
  have h8 : (A 8).length = 30 := hL 8 (by decide)
  have lp : ∀ (m i : Nat) (x : Int) (l8 : List Int), x = (i : Int) → l8.length = 30 → (∀ p : Nat, p < i → rd l8 p = al p) → i ≤ n → n + 1 ≤ i + m → R 14 (5, [some (vR 2), some (vI yr), some (vI (-1)), some (vI (-1)), some (vI x)], [], LAY (u A 8 l8) F, 0, 0) (fun r G => r = none ∧ ∃ l8 l9 l10, G = LAY (u (u (u A 8 l8) 9 l9) 10 l10) F ∧ l8.length = 30 ∧ l9.length = 30 ∧ l10.length = 30 ∧ ∀ p : Nat, p < n → rd l8 p = al p ∧ rd l9 p = CN (A 3) n al p ∧ rd l10 p = HR (A 3) n al p) := by
    intro m
    induction m with
    | zero =>
      intro i x l8 ex hl8 hz hi hm
      exact absurd hm (by omega)
    | succ m ih =>
      intro i x l8 ex hl8 hz hi hm
      have g1 := hal i
      have g2 := hU i
      have g3 := hTk i
      rw [← ex] at g2 g3
      refine R_s (P := True) (f' := (11, [some (vR 2), some (vI yr), some (vI (-1)), some (vI (-1)), some (vI x)], [vI (F 3), vI x], LAY (u A 8 l8) F, 0, 0)) hc14 3 rfl trivial ?_
      refine R_ic (t := 131) hc14 rfl rfl (fun (c1 : F 3 ≤ x) => ?_) (fun (c1 : ¬ (F 3 ≤ x)) => ?_)
      · refine R_s (P := True) (f' := (132, [some (vR 2), some (vI yr), some (vI (-1)), some (vI (-1)), some (vI x)], [vR 2], LAY (u A 8 l8) F, 0, 0)) hc14 1 rfl trivial ?_
        refine R_cv hc14 rfl rfl (l_countLines (A := u A 8 l8) (al := al) (LENS_u hL (by rw [hl8, h8])) hn hn30 hT (fun p hp => hz p (by omega)) (fun p hp => by rw [hal p hp]; exact LV_01 (hTk p hp))) (fun r G9 hp9 => ?_)
        obtain ⟨rfl, l9, l10, rfl, hl9, hl10, h9⟩ := hp9
        refine R_s (f' := (135, [some (vR 2), some (vI yr), some (vI (-1)), some (vI (-1)), some (vI x)], [], LAY (u (u (u A 8 l8) 9 l9) 10 l10) F, 0, 0)) hc14 0 rfl trivial ?_
        exact R_retv hc14 rfl rfl ⟨rfl, l8, l9, l10, rfl, hl8, hl9, hl10, fun p hp => ⟨hz p (by omega), h9 p hp⟩⟩
      · refine R_s (P := ((0 ≤ x ∧ x < ((l8).length : Int)) ∧ (0 = 0 ∨ 0 = 1)) ∧ (0 ≤ x ∧ x < ((A 4).length : Int)) ∧ True) (f' := (30, [some (vR 2), some (vI yr), some (vI (-1)), some (vI (-1)), some (vI x)], [vI yr, vI (rd (A 4) x)], LAY (u A 8 (wr l8 x 0)) F, 0, 0)) hc14 10 rfl ⟨⟨⟨by omega, by omega⟩, by omega⟩, ⟨by omega, by omega⟩, trivial⟩ ?_
        refine R_ic (t := 125) hc14 rfl rfl (fun (c2 : yr < rd (A 4) x) => ?_) (fun (c2 : ¬ (yr < rd (A 4) x)) => ?_)
        · refine R_s (P := inI (x + 1) ∧ True) (f' := (5, [some (vR 2), some (vI yr), some (vI (-1)), some (vI (-1)), some (vI (x + 1))], [], LAY (u A 8 (wr l8 x 0)) F, 0, 0)) hc14 2 rfl ⟨⟨by omega, by omega⟩, trivial⟩ ?_
          refine ih (i + 1) _ _ (by omega) (by simp only [wr_len]; exact hl8) (fun p hp => ?_) (by omega) (by omega)
          rw [rd_wr (by omega) (by (try simp only [wr_len]); omega) (by omega)]
          by_cases e : (p : Int) = x
          · rw [if_pos e]
            have e2 : p = i := by omega
            subst e2
            rw [g1 (by omega)]
            subst ex
            unfold LV
            (try dsimp only)
            (repeat' split) <;> omega
          · rw [if_neg e]
            exact hz p (by omega)
        · refine R_s (P := (0 ≤ x ∧ x < ((A 6).length : Int)) ∧ True) (f' := (40, [some (vR 2), some (vI yr), some (vI (-1)), some (vI (-1)), some (vI x)], [vI (rd (A 6) x)], LAY (u A 8 (wr l8 x 0)) F, 0, 0)) hc14 4 rfl ⟨⟨by omega, by omega⟩, trivial⟩ ?_
          refine R_if (t := 80) hc14 rfl rfl (fun (c3 : ¬ rd (A 6) x = 0) => ?_) (fun (c3 : ¬ (¬ rd (A 6) x = 0)) => ?_)
          · refine R_s (P := True) (f' := (82, [some (vR 2), some (vI yr), some (vI (-1)), some (vI (-1)), some (vI x)], [vI (-1), vI (-1)], LAY (u A 8 (wr l8 x 0)) F, 0, 0)) hc14 2 rfl trivial ?_
            refine R_ic (t := 102) hc14 rfl rfl (fun (z : ¬ (-1) = (-1)) => absurd z (by decide)) (fun (_ : ¬ (¬ (-1) = (-1))) => ?_)
            refine R_s (P := (0 ≤ x ∧ x < ((A 7).length : Int)) ∧ ((0 ≤ x ∧ x < ((wr l8 x 0).length : Int)) ∧ (rd (A 7) x = 0 ∨ rd (A 7) x = 1)) ∧ inI (x + 1) ∧ True) (f' := (5, [some (vR 2), some (vI yr), some (vI (-1)), some (vI (-1)), some (vI (x + 1))], [], LAY (u A 8 (wr (wr l8 x 0) x (rd (A 7) x))) F, 0, 0)) hc14 11 rfl ⟨⟨by omega, by omega⟩, ⟨⟨by omega, by simp only [wr_len]; omega⟩, by omega⟩, ⟨by omega, by omega⟩, trivial⟩ ?_
            refine ih (i + 1) _ _ (by omega) (by simp only [wr_len]; exact hl8) (fun p hp => ?_) (by omega) (by omega)
            rw [rd_wr (by omega) (by (try simp only [wr_len]); omega) (by omega), rd_wr (by omega) (by (try simp only [wr_len]); omega) (by omega)]
            by_cases e : (p : Int) = x
            · rw [if_pos e]
              have e2 : p = i := by omega
              subst e2
              rw [g1 (by omega)]
              subst ex
              unfold LV
              (try dsimp only)
              (repeat' split) <;> omega
            · rw [if_neg e, if_neg e]
              exact hz p (by omega)
          · refine R_s (P := (0 ≤ x ∧ x < ((A 5).length : Int)) ∧ True) (f' := (57, [some (vR 2), some (vI yr), some (vI (-1)), some (vI (-1)), some (vI x)], [vI (-1), vI (rd (A 5) x), vI x, vR 8], LAY (u A 8 (wr l8 x 0)) F, 0, 0)) hc14 8 rfl ⟨⟨by omega, by omega⟩, trivial⟩ ?_
            refine R_ic (t := 71) hc14 rfl rfl (fun (c5 : rd (A 5) x = (-1)) => ?_) (fun (c5 : ¬ (rd (A 5) x = (-1))) => ?_)
            · refine R_s (P := ((0 ≤ x ∧ x < ((wr l8 x 0).length : Int)) ∧ (1 = 0 ∨ 1 = 1)) ∧ inI (x + 1) ∧ True) (f' := (5, [some (vR 2), some (vI yr), some (vI (-1)), some (vI (-1)), some (vI (x + 1))], [], LAY (u A 8 (wr (wr l8 x 0) x 1)) F, 0, 0)) hc14 6 rfl ⟨⟨⟨by omega, by simp only [wr_len]; omega⟩, by omega⟩, ⟨by omega, by omega⟩, trivial⟩ ?_
              refine ih (i + 1) _ _ (by omega) (by simp only [wr_len]; exact hl8) (fun p hp => ?_) (by omega) (by omega)
              rw [rd_wr (by omega) (by (try simp only [wr_len]); omega) (by omega), rd_wr (by omega) (by (try simp only [wr_len]); omega) (by omega)]
              by_cases e : (p : Int) = x
              · rw [if_pos e]
                have e2 : p = i := by omega
                subst e2
                rw [g1 (by omega)]
                subst ex
                unfold LV
                (try dsimp only)
                (repeat' split) <;> omega
              · rw [if_neg e, if_neg e]
                exact hz p (by omega)
            · refine R_s (P := (0 ≤ x ∧ x < ((A 5).length : Int)) ∧ True) (f' := (68, [some (vR 2), some (vI yr), some (vI (-1)), some (vI (-1)), some (vI x)], [vI yr, vI (rd (A 5) x), vI x, vR 8], LAY (u A 8 (wr l8 x 0)) F, 0, 0)) hc14 5 rfl ⟨⟨by omega, by omega⟩, trivial⟩ ?_
              refine R_ic (t := 75) hc14 rfl rfl (fun (c6 : rd (A 5) x ≤ yr) => ?_) (fun (c6 : ¬ (rd (A 5) x ≤ yr)) => ?_)
              · refine R_s (P := ((0 ≤ x ∧ x < ((wr l8 x 0).length : Int)) ∧ (0 = 0 ∨ 0 = 1)) ∧ inI (x + 1) ∧ True) (f' := (5, [some (vR 2), some (vI yr), some (vI (-1)), some (vI (-1)), some (vI (x + 1))], [], LAY (u A 8 (wr (wr l8 x 0) x 0)) F, 0, 0)) hc14 5 rfl ⟨⟨⟨by omega, by simp only [wr_len]; omega⟩, by omega⟩, ⟨by omega, by omega⟩, trivial⟩ ?_
                refine ih (i + 1) _ _ (by omega) (by simp only [wr_len]; exact hl8) (fun p hp => ?_) (by omega) (by omega)
                rw [rd_wr (by omega) (by (try simp only [wr_len]); omega) (by omega), rd_wr (by omega) (by (try simp only [wr_len]); omega) (by omega)]
                by_cases e : (p : Int) = x
                · rw [if_pos e]
                  have e2 : p = i := by omega
                  subst e2
                  rw [g1 (by omega)]
                  subst ex
                  unfold LV
                  (try dsimp only)
                  (repeat' split) <;> omega
                · rw [if_neg e, if_neg e]
                  exact hz p (by omega)
              · refine R_s (P := ((0 ≤ x ∧ x < ((wr l8 x 0).length : Int)) ∧ (1 = 0 ∨ 1 = 1)) ∧ inI (x + 1) ∧ True) (f' := (5, [some (vR 2), some (vI yr), some (vI (-1)), some (vI (-1)), some (vI (x + 1))], [], LAY (u A 8 (wr (wr l8 x 0) x 1)) F, 0, 0)) hc14 6 rfl ⟨⟨⟨by omega, by simp only [wr_len]; omega⟩, by omega⟩, ⟨by omega, by omega⟩, trivial⟩ ?_
                refine ih (i + 1) _ _ (by omega) (by simp only [wr_len]; exact hl8) (fun p hp => ?_) (by omega) (by omega)
                rw [rd_wr (by omega) (by (try simp only [wr_len]); omega) (by omega), rd_wr (by omega) (by (try simp only [wr_len]); omega) (by omega)]
                by_cases e : (p : Int) = x
                · rw [if_pos e]
                  have e2 : p = i := by omega
                  subst e2
                  rw [g1 (by omega)]
                  subst ex
                  unfold LV
                  (try dsimp only)
                  (repeat' split) <;> omega
                · rw [if_neg e, if_neg e]
                  exact hz p (by omega)
  refine R_s (P := True) (f' := (0, [some (vR 2), some (vI yr), some (vI (-1)), none, none], [], LAY (u A 8 (A 8)) F, 0, 0)) hc14 0 (by rw [u_self]; rfl) trivial ?_
  refine R_s (P := True) (f' := (5, [some (vR 2), some (vI yr), some (vI (-1)), some (vI (-1)), some (vI 0)], [], LAY (u A 8 (A 8)) F, 0, 0)) hc14 4 rfl trivial ?_
  exact lp (n + 1) 0 _ _ rfl h8 (fun p hp => absurd hp (by omega)) (by omega) (by omega)
theorem l_children {A : Nat → List Int} {F : Nat → Int} {n : Nat} (hL : LENS A) (hn : (n : Int) = F 3) (hn30 : n ≤ 30) (hT : TR (A 3) n) {q : Int} {qn : Nat} (hq : q = qn) (hq2 : qn < n) : R 12 (0, L0 12 [vR 2, vI q], [], LAY A F, 0, 0) (fun r G => r = some (vI (sm (fun c => if rd (A 3) c = q then 1 else 0) n)) ∧ G = LAY A F) := by
  have h3 : (A 3).length = 30 := hL 3 (by decide)
  have lp : ∀ (m i : Nat) (x : Int) (s : Int), x = (i : Int) → s = sm (fun c => if rd (A 3) c = q then 1 else 0) i → i ≤ n → n + 1 ≤ i + m → R 12 (6, [some (vR 2), some (vI q), some (vI s), some (vI x)], [], LAY A F, 0, 0) (fun r G => r = some (vI (sm (fun c => if rd (A 3) c = q then 1 else 0) n)) ∧ G = LAY A F) := by
    intro m
    induction m with
    | zero =>
      intro i x s ex es hi hm
      exact absurd hm (by omega)
    | succ m ih =>
      intro i x s ex es hi hm
      have hbd := sm_bd (g := fun c : Nat => if rd (A 3) c = q then 1 else 0) (b := 1) i (fun j hj => by (try dsimp only); split <;> omega)
      rw [← es] at hbd
      refine R_s (P := True) (f' := (11, [some (vR 2), some (vI q), some (vI s), some (vI x)], [vI (F 3), vI x], LAY A F, 0, 0)) hc12 3 rfl trivial ?_
      refine R_ic (t := 38) hc12 rfl rfl (fun (c1 : F 3 ≤ x) => ?_) (fun (c1 : ¬ (F 3 ≤ x)) => ?_)
      · refine R_s (P := True) (f' := (39, [some (vR 2), some (vI q), some (vI s), some (vI x)], [vI s], LAY A F, 0, 0)) hc12 1 rfl trivial ?_
        exact R_reti hc12 rfl rfl ⟨by rw [es, show i = n by omega], rfl⟩
      · refine R_s (P := (0 ≤ x ∧ x < ((A 3).length : Int)) ∧ True) (f' := (22, [some (vR 2), some (vI q), some (vI s), some (vI x)], [vI q, vI (rd (A 3) x), vI s], LAY A F, 0, 0)) hc12 6 rfl ⟨⟨by omega, by omega⟩, trivial⟩ ?_
        refine R_ic (t := 29) hc12 rfl rfl (fun (c2 : ¬ rd (A 3) x = q) => ?_) (fun (c2 : ¬ (¬ rd (A 3) x = q)) => ?_)
        · refine R_s (P := inI (s + 0) ∧ inI (x + 1) ∧ True) (f' := (6, [some (vR 2), some (vI q), some (vI (s + 0)), some (vI (x + 1))], [], LAY A F, 0, 0)) hc12 5 rfl ⟨⟨by omega, by omega⟩, ⟨by omega, by omega⟩, trivial⟩ ?_
          exact ih (i + 1) _ _ (by omega) (by simp only [sm]; rw [← es]; subst ex; split <;> omega) (by omega) (by omega)
        · refine R_s (P := inI (s + 1) ∧ inI (x + 1) ∧ True) (f' := (6, [some (vR 2), some (vI q), some (vI (s + 1)), some (vI (x + 1))], [], LAY A F, 0, 0)) hc12 6 rfl ⟨⟨by omega, by omega⟩, ⟨by omega, by omega⟩, trivial⟩ ?_
          exact ih (i + 1) _ _ (by omega) (by simp only [sm]; rw [← es]; subst ex; split <;> omega) (by omega) (by omega)
  refine R_s (P := inI (q + 1) ∧ True) (f' := (6, [some (vR 2), some (vI q), some (vI 0), some (vI (q + 1))], [], LAY A F, 0, 0)) hc12 6 rfl ⟨⟨by omega, by omega⟩, trivial⟩ ?_
  exact lp (n + 1) (qn + 1) _ _ (by omega) (sm_zero _ (fun c hc => if_neg (by have := hT c (by omega); omega))).symm (by omega) (by omega)
