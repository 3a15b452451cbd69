theorem u_self {α : Type} {f : Nat → α} {k : Nat} : u f k (f k) = f := by
  funext j
  unfold u
  by_cases h : j = k
  · subst h
    rw [Nat.beq_refl]
    rfl
  · have : Nat.beq j k = false := by
      cases hb : Nat.beq j k
      · rfl
      · exact absurd (Nat.eq_of_beq_eq_true hb) h
    rw [this]
    rfl
theorem l_clearLine {A : Nat → List Int} {F : Nat → Int} {n : Nat} (hL : LENS A) (hn : (n : Int) = F 3) (hn30 : n ≤ 30)  : R 16 (0, L0 16 [vR 2], [], LAY A F, 0, 0) (fun r G => r = none ∧ ∃ l, G = LAY (u A 11 l) F ∧ l.length = 30 ∧ ∀ p : Nat, p < n → rd l p = 0) := by
  have h11 : (A 11).length = 30 := hL 11 (by decide)
  have lp : ∀ (m i : Nat) (x : Int) (l : List Int), x = (i : Int) → l.length = 30 → (∀ p : Nat, p < i → rd l p = 0) → i ≤ n → n + 1 ≤ i + m → R 16 (2, [some (vR 2), some (vI x)], [], LAY (u A 11 l) F, 0, 0) (fun r G => r = none ∧ ∃ l, G = LAY (u A 11 l) F ∧ l.length = 30 ∧ ∀ p : Nat, p < n → rd l p = 0) := by
    intro m
    induction m with
    | zero =>
      intro i x l ex hl hz hi hm
      exact absurd hm (by omega)
    | succ m ih =>
      intro i x l ex hl hz hi hm
      refine R_s (P := True) (f' := (7, [some (vR 2), some (vI x)], [vI (F 3), vI x], LAY (u A 11 l) F, 0, 0)) hc16 3 rfl trivial ?_
      refine R_ic (t := 23) hc16 rfl rfl (fun (c1 : F 3 ≤ x) => ?_) (fun (c1 : ¬ (F 3 ≤ x)) => ?_)
      · exact R_retv hc16 rfl rfl ⟨rfl, l, rfl, hl, fun p hp => hz p (by omega)⟩
      · refine R_s (P := ((0 ≤ x ∧ x < ((l).length : Int)) ∧ (0 = 0 ∨ 0 = 1)) ∧ inI (x + 1) ∧ True) (f' := (2, [some (vR 2), some (vI (x + 1))], [], LAY (u A 11 (wr l x 0)) F, 0, 0)) hc16 7 rfl ⟨⟨⟨by omega, by omega⟩, by omega⟩, ⟨by omega, by omega⟩, trivial⟩ ?_
        exact ih (i + 1) _ _ (by omega) (by rw [wr_len]; exact hl) (fun p hp => by rw [rd_wr (by omega) (by omega) (by omega)]; split <;> first | rfl | exact hz p (by omega)) (by omega) (by omega)
  refine R_s (P := True) (f' := (0, [some (vR 2), none], [], LAY (u A 11 (A 11)) F, 0, 0)) hc16 0 (by rw [u_self]; rfl) trivial ?_
  refine R_s (P := True) (f' := (2, [some (vR 2), some (vI 0)], [], LAY (u A 11 (A 11)) F, 0, 0)) hc16 2 rfl trivial ?_
  exact lp (n + 1) 0 _ _ rfl h11 (fun p hp => absurd hp (by omega)) (by omega) (by omega)
theorem l_addLine {A : Nat → List Int} {F : Nat → Int} {n : Nat} (hL : LENS A) (hn : (n : Int) = F 3) (hn30 : n ≤ 30) (hT : TR (A 3) n) {root : Int} {ro : Nat} (hro : root = ro) (hr : ro < n) {mk : Nat → Int} (hmk : ∀ p : Nat, p < n → rd (A 11) p = mk p) (hm01 : ∀ p : Nat, p < n → mk p = 0 ∨ mk p = 1) (hcl : ∀ p : Nat, p < n → 0 ≤ rd (A 3) p → mk (rd (A 3) p).toNat = 1 → mk p = 1) : R 17 (0, L0 17 [vR 2, vI root], [], LAY A F, 0, 0) (fun r G => r = none ∧ ∃ l, G = LAY (u A 11 l) F ∧ l.length = 30 ∧ ∀ p : Nat, p < n → rd l p = if rq (A 3) 0 ro p = 1 then 1 else mk p) := by
  have h11 : (A 11).length = 30 := hL 11 (by decide)
  have h3 : (A 3).length = 30 := hL 3 (by decide)
  have lp : ∀ (m i : Nat) (x : Int) (y : Option AV) (l : List Int), x = (i : Int) → l.length = 30 → (∀ p : Nat, p < n → rd l p = if p < i ∧ rq (A 3) 0 ro p = 1 then 1 else mk p) → ro < i → i ≤ n → n + 1 ≤ i + m → R 17 (24, [some (vR 2), some (vI root), some (vI x), y], [], LAY (u A 11 l) F, 0, 0) (fun r G => r = none ∧ ∃ l, G = LAY (u A 11 l) F ∧ l.length = 30 ∧ ∀ p : Nat, p < n → rd l p = if rq (A 3) 0 ro p = 1 then 1 else mk p) := by
    intro m
    induction m with
    | zero =>
      intro i x y l ex hl hz hri hi hm
      exact absurd hm (by omega)
    | succ m ih =>
      intro i x y l ex hl hz hri hi hm
      have hTi := hT i
      have hor := of_eq (p := ro) (k := i) hT
      have hzi := hz i
      have h01 := hm01 i
      have hcc := hcl i
      have hzp := hz (rd (A 3) i).toNat
      have hmp := hm01 (rd (A 3) i).toNat
      have hqp := rq_01 (P := A 3) (q := 0) (p := ro) (rd (A 3) i).toNat
      have hqi := rq_01 (P := A 3) (q := 0) (p := ro) i
      rw [← ex] at hTi hor hzi hcc hzp hmp hqp
      refine R_s (P := True) (f' := (29, [some (vR 2), some (vI root), some (vI x), y], [vI (F 3), vI x], LAY (u A 11 l) F, 0, 0)) hc17 3 rfl trivial ?_
      refine R_ic (t := 73) hc17 rfl rfl (fun (c1 : F 3 ≤ x) => ?_) (fun (c1 : ¬ (F 3 ≤ x)) => ?_)
      · exact R_retv hc17 rfl rfl ⟨rfl, l, rfl, hl, fun p hp => by rw [hz p hp]; by_cases e : rq (A 3) 0 ro p = 1 <;> simp [e]; omega⟩
      · refine R_s (P := (0 ≤ x ∧ x < ((A 3).length : Int)) ∧ True) (f' := (40, [some (vR 2), some (vI root), some (vI x), some (vI (rd (A 3) x))], [vI (rd (A 3) x)], LAY (u A 11 l) F, 0, 0)) hc17 6 rfl ⟨⟨by omega, by omega⟩, trivial⟩ ?_
        refine R_if (t := 67) hc17 rfl rfl (fun (c2 : rd (A 3) x < 0) => ?_) (fun (c2 : ¬ (rd (A 3) x < 0)) => ?_)
        · refine R_s (P := inI (x + 1) ∧ True) (f' := (24, [some (vR 2), some (vI root), some (vI (x + 1)), some (vI (rd (A 3) x))], [], LAY (u A 11 l) F, 0, 0)) hc17 2 rfl ⟨⟨by omega, by omega⟩, trivial⟩ ?_
          refine ih (i + 1) _ _ _ (by omega) hl (fun p hp => ?_) (by omega) (by omega) (by omega)
          have hor2 := hor (by omega)
          rw [hz p hp]
          by_cases e3 : rq (A 3) 0 ro p = 1
          · by_cases e4 : p < i
            · rw [if_pos ⟨e4, e3⟩, if_pos ⟨by omega, e3⟩]
            · rw [if_neg (fun q => e4 q.1)]
              by_cases e5 : p < i + 1
              · have e6 : p = i := by omega
                subst e6
                exfalso
                rw [if_neg (show ¬ p = ro by omega)] at hor2
                by_cases e7 : 0 ≤ rd (A 3) x
                · rw [if_pos (show ro < p ∧ 0 ≤ rd (A 3) x by omega)] at hor2
                  have hx : ((rd (A 3) x).toNat : Int) = rd (A 3) x := by omega
                  rw [hx] at hzp
                  have hzp2 := hzp (by omega)
                  rw [if_pos (show (rd (A 3) x).toNat < p ∧ _ from ⟨by omega, by omega⟩)] at hzp2
                  omega
                · rw [if_neg (fun q => e7 q.2)] at hor2
                  omega
              · rw [if_neg (fun q => e5 q.1)]
          · rw [if_neg (fun q => e3 q.2), if_neg (fun q => e3 q.2)]
        · refine R_s (P := True) (f' := (48, [some (vR 2), some (vI root), some (vI x), some (vI (rd (A 3) x))], [vI (F 3), vI (rd (A 3) x)], LAY (u A 11 l) F, 0, 0)) hc17 3 rfl trivial ?_
          refine R_ic (t := 67) hc17 rfl rfl (fun (c3 : F 3 ≤ rd (A 3) x) => ?_) (fun (c3 : ¬ (F 3 ≤ rd (A 3) x)) => ?_)
          · refine R_s (P := inI (x + 1) ∧ True) (f' := (24, [some (vR 2), some (vI root), some (vI (x + 1)), some (vI (rd (A 3) x))], [], LAY (u A 11 l) F, 0, 0)) hc17 2 rfl ⟨⟨by omega, by omega⟩, trivial⟩ ?_
            refine ih (i + 1) _ _ _ (by omega) hl (fun p hp => ?_) (by omega) (by omega) (by omega)
            have hor2 := hor (by omega)
            rw [hz p hp]
            by_cases e3 : rq (A 3) 0 ro p = 1
            · by_cases e4 : p < i
              · rw [if_pos ⟨e4, e3⟩, if_pos ⟨by omega, e3⟩]
              · rw [if_neg (fun q => e4 q.1)]
                by_cases e5 : p < i + 1
                · have e6 : p = i := by omega
                  subst e6
                  exfalso
                  rw [if_neg (show ¬ p = ro by omega)] at hor2
                  by_cases e7 : 0 ≤ rd (A 3) x
                  · rw [if_pos (show ro < p ∧ 0 ≤ rd (A 3) x by omega)] at hor2
                    have hx : ((rd (A 3) x).toNat : Int) = rd (A 3) x := by omega
                    rw [hx] at hzp
                    have hzp2 := hzp (by omega)
                    rw [if_pos (show (rd (A 3) x).toNat < p ∧ _ from ⟨by omega, by omega⟩)] at hzp2
                    omega
                  · rw [if_neg (fun q => e7 q.2)] at hor2
                    omega
                · rw [if_neg (fun q => e5 q.1)]
            · rw [if_neg (fun q => e3 q.2), if_neg (fun q => e3 q.2)]
          · refine R_s (P := (0 ≤ rd (A 3) x ∧ rd (A 3) x < ((l).length : Int)) ∧ True) (f' := (57, [some (vR 2), some (vI root), some (vI x), some (vI (rd (A 3) x))], [vI (rd l (rd (A 3) x))], LAY (u A 11 l) F, 0, 0)) hc17 4 rfl ⟨⟨by omega, by omega⟩, trivial⟩ ?_
            refine R_if (t := 67) hc17 rfl rfl (fun (c4 : rd l (rd (A 3) x) = 0) => ?_) (fun (c4 : ¬ (rd l (rd (A 3) x) = 0)) => ?_)
            · refine R_s (P := inI (x + 1) ∧ True) (f' := (24, [some (vR 2), some (vI root), some (vI (x + 1)), some (vI (rd (A 3) x))], [], LAY (u A 11 l) F, 0, 0)) hc17 2 rfl ⟨⟨by omega, by omega⟩, trivial⟩ ?_
              refine ih (i + 1) _ _ _ (by omega) hl (fun p hp => ?_) (by omega) (by omega) (by omega)
              have hor2 := hor (by omega)
              rw [hz p hp]
              by_cases e3 : rq (A 3) 0 ro p = 1
              · by_cases e4 : p < i
                · rw [if_pos ⟨e4, e3⟩, if_pos ⟨by omega, e3⟩]
                · rw [if_neg (fun q => e4 q.1)]
                  by_cases e5 : p < i + 1
                  · have e6 : p = i := by omega
                    subst e6
                    exfalso
                    rw [if_neg (show ¬ p = ro by omega)] at hor2
                    by_cases e7 : 0 ≤ rd (A 3) x
                    · rw [if_pos (show ro < p ∧ 0 ≤ rd (A 3) x by omega)] at hor2
                      have hx : ((rd (A 3) x).toNat : Int) = rd (A 3) x := by omega
                      rw [hx] at hzp
                      have hzp2 := hzp (by omega)
                      rw [if_pos (show (rd (A 3) x).toNat < p ∧ _ from ⟨by omega, by omega⟩)] at hzp2
                      omega
                    · rw [if_neg (fun q => e7 q.2)] at hor2
                      omega
                  · rw [if_neg (fun q => e5 q.1)]
              · rw [if_neg (fun q => e3 q.2), if_neg (fun q => e3 q.2)]
            · refine R_s (P := ((0 ≤ x ∧ x < ((l).length : Int)) ∧ (1 = 0 ∨ 1 = 1)) ∧ inI (x + 1) ∧ True) (f' := (24, [some (vR 2), some (vI root), some (vI (x + 1)), some (vI (rd (A 3) x))], [], LAY (u A 11 (wr l x 1)) F, 0, 0)) hc17 7 rfl ⟨⟨⟨by omega, by omega⟩, by omega⟩, ⟨by omega, by omega⟩, trivial⟩ ?_
              refine ih (i + 1) _ _ _ (by omega) (by rw [wr_len]; exact hl) (fun p hp => ?_) (by omega) (by omega) (by omega)
              have hx : ((rd (A 3) x).toNat : Int) = rd (A 3) x := by omega
              rw [hx] at hzp
              have hzp2 := hzp (by omega)
              rw [rd_wr (by omega) (by omega) (by omega)]
              by_cases e : (p : Int) = x
              · rw [if_pos e]
                have e2 : p = i := by omega
                subst e2
                have hor2 := hor (by omega)
                rw [if_neg (show ¬ p = ro by omega), if_pos (show ro < p ∧ 0 ≤ rd (A 3) x by omega)] at hor2
                by_cases e3 : rq (A 3) 0 ro (rd (A 3) x).toNat = 1
                · rw [if_pos ⟨by omega, by omega⟩]
                · have e4 : ¬ ((rd (A 3) x).toNat < p ∧ rq (A 3) 0 ro (rd (A 3) x).toNat = 1) := fun q => e3 q.2
                  rw [if_neg e4] at hzp2
                  have e5 := hcc (by omega) (by omega) (by omega)
                  split <;> omega
              · rw [if_neg e, hz p hp]
                by_cases e3 : rq (A 3) 0 ro p = 1
                · by_cases e4 : p < i
                  · rw [if_pos ⟨e4, e3⟩, if_pos ⟨by omega, e3⟩]
                  · rw [if_neg (fun q => e4 q.1), if_neg (fun q => absurd q.1 (by omega))]
                · rw [if_neg (fun q => e3 q.2), if_neg (fun q => e3 q.2)]
  refine R_s (P := True) (f' := (1, [some (vR 2), some (vI root), none, none], [vI root], LAY A F, 0, 0)) hc17 1 rfl trivial ?_
  refine R_if (t := 12) hc17 rfl rfl (fun (c1 : root < 0) => ?_) (fun (c1 : ¬ (root < 0)) => ?_)
  · exact R_retv hc17 rfl rfl (by exfalso; omega)
  · refine R_s (P := True) (f' := (9, [some (vR 2), some (vI root), none, none], [vI (F 3), vI root], LAY A F, 0, 0)) hc17 3 rfl trivial ?_
    refine R_ic (t := 13) hc17 rfl rfl (fun (c2 : root < F 3) => ?_) (fun (c2 : ¬ (root < F 3)) => ?_)
    · refine R_s (P := ((0 ≤ root ∧ root < ((A 11).length : Int)) ∧ (1 = 0 ∨ 1 = 1)) ∧ inI (root + 1) ∧ True) (f' := (24, [some (vR 2), some (vI root), some (vI (root + 1)), none], [], LAY (u A 11 (wr (A 11) root 1)) F, 0, 0)) hc17 9 rfl ⟨⟨⟨by omega, by omega⟩, by omega⟩, ⟨by omega, by omega⟩, trivial⟩ ?_
      refine lp (n + 1) (ro + 1) _ _ _ (by omega) (by rw [wr_len]; exact h11) (fun p hp => ?_) (by omega) (by omega) (by omega)
      rw [rd_wr (by omega) (by omega) (by omega)]
      by_cases e : (p : Int) = root
      · rw [if_pos e, show p = ro by omega, rq_self, if_pos ⟨by omega, rfl⟩]
      · rw [if_neg e, hmk p hp]
        by_cases e2 : p < ro + 1
        · rw [rq_lt p (by omega), if_neg (by omega)]
        · rw [if_neg (fun q => e2 q.1)]
    · exact R_retv hc17 rfl rfl (by exfalso; omega)
theorem l_aliveMarked {A : Nat → List Int} {F : Nat → Int} {n : Nat} (hL : LENS A) (hn : (n : Int) = F 3) (hn30 : n ≤ 30) {mk : Nat → Int} {al : Nat → Int} (hal : ∀ p : Nat, p < n → rd (A 8) p = al p) (ha : ∀ p : Nat, p < n → al p = 0 ∨ al p = 1) (hmk : ∀ p : Nat, p < n → rd (A 11) p = mk p) (hm01 : ∀ p : Nat, p < n → mk p = 0 ∨ mk p = 1) : R 18 (0, L0 18 [vR 2], [], LAY A F, 0, 0) (fun r G => r = some (vI (sm (fun p => mk p * al p) n)) ∧ G = LAY A F) := by
  have h11 : (A 11).length = 30 := hL 11 (by decide)
  have h8 : (A 8).length = 30 := hL 8 (by decide)
  have lp : ∀ (m i : Nat) (x : Int) (s : Int), x = (i : Int) → s = sm (fun p => mk p * al p) i → i ≤ n → n + 1 ≤ i + m → R 18 (4, [some (vR 2), some (vI s), some (vI x)], [], LAY A F, 0, 0) (fun r G => r = some (vI (sm (fun p => mk p * al p) n)) ∧ G = LAY A F) := by
    intro m
    induction m with
    | zero =>
      intro i x s ex es hi hm
      exact absurd hm (by omega)
    | succ m ih =>
      intro i x s ex es hi hm
      have hbd := sm_bd (g := fun p => mk p * al p) (b := 1) i (fun j hj => by have := (mul_01 (hm01 j (by omega)) (ha j (by omega))).1; omega)
      rw [← es] at hbd
      have g1 := hal i
      have g2 := hmk i
      have g3 := ha i
      have g4 := hm01 i
      have g5 := fun hi2 => mul_01 (hm01 i hi2) (ha i hi2)
      rw [← ex] at g1 g2
      refine R_s (P := True) (f' := (9, [some (vR 2), some (vI s), some (vI x)], [vI (F 3), vI x], LAY A F, 0, 0)) hc18 3 rfl trivial ?_
      refine R_ic (t := 44) hc18 rfl rfl (fun (c1 : F 3 ≤ x) => ?_) (fun (c1 : ¬ (F 3 ≤ x)) => ?_)
      · refine R_s (P := True) (f' := (45, [some (vR 2), some (vI s), some (vI x)], [vI s], LAY A F, 0, 0)) hc18 1 rfl trivial ?_
        exact R_reti hc18 rfl rfl ⟨by rw [es, show i = n by omega], rfl⟩
      · refine R_s (P := (0 ≤ x ∧ x < ((A 11).length : Int)) ∧ True) (f' := (19, [some (vR 2), some (vI s), some (vI x)], [vI (rd (A 11) x), vI s], LAY A F, 0, 0)) hc18 5 rfl ⟨⟨by omega, by omega⟩, trivial⟩ ?_
        refine R_if (t := 35) hc18 rfl rfl (fun (c2 : rd (A 11) x = 0) => ?_) (fun (c2 : ¬ (rd (A 11) x = 0)) => ?_)
        · refine R_s (P := inI (s + 0) ∧ inI (x + 1) ∧ True) (f' := (4, [some (vR 2), some (vI (s + 0)), some (vI (x + 1))], [], LAY A F, 0, 0)) hc18 5 rfl ⟨⟨by omega, by omega⟩, ⟨by omega, by omega⟩, trivial⟩ ?_
          have g6 := (g5 (by omega)).1
          have g7 := (g5 (by omega)).2
          exact ih (i + 1) _ _ (by omega) (by simp only [sm]; rw [← es]; omega) (by omega) (by omega)
        · refine R_s (P := (0 ≤ x ∧ x < ((A 8).length : Int)) ∧ True) (f' := (28, [some (vR 2), some (vI s), some (vI x)], [vI (rd (A 8) x), vI s], LAY A F, 0, 0)) hc18 4 rfl ⟨⟨by omega, by omega⟩, trivial⟩ ?_
          refine R_if (t := 35) hc18 rfl rfl (fun (c3 : rd (A 8) x = 0) => ?_) (fun (c3 : ¬ (rd (A 8) x = 0)) => ?_)
          · refine R_s (P := inI (s + 0) ∧ inI (x + 1) ∧ True) (f' := (4, [some (vR 2), some (vI (s + 0)), some (vI (x + 1))], [], LAY A F, 0, 0)) hc18 5 rfl ⟨⟨by omega, by omega⟩, ⟨by omega, by omega⟩, trivial⟩ ?_
            have g6 := (g5 (by omega)).1
            have g7 := (g5 (by omega)).2
            exact ih (i + 1) _ _ (by omega) (by simp only [sm]; rw [← es]; omega) (by omega) (by omega)
          · refine R_s (P := inI (s + 1) ∧ inI (x + 1) ∧ True) (f' := (4, [some (vR 2), some (vI (s + 1)), some (vI (x + 1))], [], LAY A F, 0, 0)) hc18 6 rfl ⟨⟨by omega, by omega⟩, ⟨by omega, by omega⟩, trivial⟩ ?_
            have g6 := (g5 (by omega)).1
            have g7 := (g5 (by omega)).2
            exact ih (i + 1) _ _ (by omega) (by simp only [sm]; rw [← es]; omega) (by omega) (by omega)
  refine R_s (P := True) (f' := (4, [some (vR 2), some (vI 0), some (vI 0)], [], LAY A F, 0, 0)) hc18 4 rfl trivial ?_
  exact lp (n + 1) 0 _ _ rfl rfl (by omega) (by omega)
theorem l_firstBornMarked {A : Nat → List Int} {F : Nat → Int} {n : Nat} (hL : LENS A) (hn : (n : Int) = F 3) (hn30 : n ≤ 30) {mk : Nat → Int} {al : Nat → Int} (hal : ∀ p : Nat, p < n → rd (A 8) p = al p) (ha : ∀ p : Nat, p < n → al p = 0 ∨ al p = 1) (hmk : ∀ p : Nat, p < n → rd (A 11) p = mk p) (hm01 : ∀ p : Nat, p < n → mk p = 0 ∨ mk p = 1) : R 19 (0, L0 19 [vR 2], [], LAY A F, 0, 0) (fun r G => r = some (vI (fb (fun p => mk p * al p) (A 4) n)) ∧ G = LAY A F) := by
  have h11 : (A 11).length = 30 := hL 11 (by decide)
  have h8 : (A 8).length = 30 := hL 8 (by decide)
  have h4 : (A 4).length = 30 := hL 4 (by decide)
  have lp : ∀ (m i : Nat) (x : Int) (s : Int), x = (i : Int) → s = fb (fun p => mk p * al p) (A 4) i → i ≤ n → n + 1 ≤ i + m → R 19 (4, [some (vR 2), some (vI s), some (vI x)], [], LAY A F, 0, 0) (fun r G => r = some (vI (fb (fun p => mk p * al p) (A 4) n)) ∧ G = LAY A F) := by
    intro m
    induction m with
    | zero =>
      intro i x s ex es hi hm
      exact absurd hm (by omega)
    | succ m ih =>
      intro i x s ex es hi hm
      have hbd := fb_bd (fun p => mk p * al p) (A 4) i
      rw [← es] at hbd
      have g1 := hal i
      have g2 := hmk i
      have g3 := ha i
      have g4 := hm01 i
      have g5 := fun hi2 => mul_01 (hm01 i hi2) (ha i hi2)
      rw [← ex] at g1 g2
      refine R_s (P := True) (f' := (9, [some (vR 2), some (vI s), some (vI x)], [vI (F 3), vI x], LAY A F, 0, 0)) hc19 3 rfl trivial ?_
      refine R_ic (t := 58) hc19 rfl rfl (fun (c1 : F 3 ≤ x) => ?_) (fun (c1 : ¬ (F 3 ≤ x)) => ?_)
      · refine R_s (P := True) (f' := (59, [some (vR 2), some (vI s), some (vI x)], [vI s], LAY A F, 0, 0)) hc19 1 rfl trivial ?_
        exact R_reti hc19 rfl rfl ⟨by rw [es, show i = n by omega], rfl⟩
      · refine R_s (P := (0 ≤ x ∧ x < ((A 11).length : Int)) ∧ True) (f' := (18, [some (vR 2), some (vI s), some (vI x)], [vI (rd (A 11) x)], LAY A F, 0, 0)) hc19 4 rfl ⟨⟨by omega, by omega⟩, trivial⟩ ?_
        refine R_if (t := 52) hc19 rfl rfl (fun (c2 : rd (A 11) x = 0) => ?_) (fun (c2 : ¬ (rd (A 11) x = 0)) => ?_)
        · refine R_s (P := inI (x + 1) ∧ True) (f' := (4, [some (vR 2), some (vI s), some (vI (x + 1))], [], LAY A F, 0, 0)) hc19 2 rfl ⟨⟨by omega, by omega⟩, trivial⟩ ?_
          have g6 := (g5 (by omega)).1
          have g7 := (g5 (by omega)).2
          refine ih (i + 1) _ _ (by omega) ?_ (by omega) (by omega)
          simp only [fb]
          rw [← es, ← ex]
          rw [if_neg (by omega)]
        · refine R_s (P := (0 ≤ x ∧ x < ((A 8).length : Int)) ∧ True) (f' := (27, [some (vR 2), some (vI s), some (vI x)], [vI (rd (A 8) x)], LAY A F, 0, 0)) hc19 4 rfl ⟨⟨by omega, by omega⟩, trivial⟩ ?_
          refine R_if (t := 52) hc19 rfl rfl (fun (c3 : rd (A 8) x = 0) => ?_) (fun (c3 : ¬ (rd (A 8) x = 0)) => ?_)
          · refine R_s (P := inI (x + 1) ∧ True) (f' := (4, [some (vR 2), some (vI s), some (vI (x + 1))], [], LAY A F, 0, 0)) hc19 2 rfl ⟨⟨by omega, by omega⟩, trivial⟩ ?_
            have g6 := (g5 (by omega)).1
            have g7 := (g5 (by omega)).2
            refine ih (i + 1) _ _ (by omega) ?_ (by omega) (by omega)
            simp only [fb]
            rw [← es, ← ex]
            rw [if_neg (by omega)]
          · refine R_s (P := True) (f' := (32, [some (vR 2), some (vI s), some (vI x)], [vI (-1), vI s], LAY A F, 0, 0)) hc19 2 rfl trivial ?_
            refine R_ic (t := 50) hc19 rfl rfl (fun (c4 : s = (-1)) => ?_) (fun (c4 : ¬ (s = (-1))) => ?_)
            · refine R_s (P := inI (x + 1) ∧ True) (f' := (4, [some (vR 2), some (vI x), some (vI (x + 1))], [], LAY A F, 0, 0)) hc19 4 rfl ⟨⟨by omega, by omega⟩, trivial⟩ ?_
              have g6 := (g5 (by omega)).1
              have g7 := (g5 (by omega)).2
              refine ih (i + 1) _ _ (by omega) ?_ (by omega) (by omega)
              simp only [fb]
              rw [← es, ← ex]
              rw [if_pos ⟨by omega, by omega⟩]
            · refine R_s (P := (0 ≤ x ∧ x < ((A 4).length : Int)) ∧ (0 ≤ s ∧ s < ((A 4).length : Int)) ∧ True) (f' := (47, [some (vR 2), some (vI s), some (vI x)], [vI (rd (A 4) s), vI (rd (A 4) x)], LAY A F, 0, 0)) hc19 8 rfl ⟨⟨by omega, by omega⟩, ⟨by omega, by omega⟩, trivial⟩ ?_
              refine R_ic (t := 52) hc19 rfl rfl (fun (c5 : rd (A 4) s ≤ rd (A 4) x) => ?_) (fun (c5 : ¬ (rd (A 4) s ≤ rd (A 4) x)) => ?_)
              · refine R_s (P := inI (x + 1) ∧ True) (f' := (4, [some (vR 2), some (vI s), some (vI (x + 1))], [], LAY A F, 0, 0)) hc19 2 rfl ⟨⟨by omega, by omega⟩, trivial⟩ ?_
                have g6 := (g5 (by omega)).1
                have g7 := (g5 (by omega)).2
                refine ih (i + 1) _ _ (by omega) ?_ (by omega) (by omega)
                simp only [fb]
                rw [← es, ← ex]
                rw [if_neg (by omega)]
              · refine R_s (P := inI (x + 1) ∧ True) (f' := (4, [some (vR 2), some (vI x), some (vI (x + 1))], [], LAY A F, 0, 0)) hc19 4 rfl ⟨⟨by omega, by omega⟩, trivial⟩ ?_
                have g6 := (g5 (by omega)).1
                have g7 := (g5 (by omega)).2
                refine ih (i + 1) _ _ (by omega) ?_ (by omega) (by omega)
                simp only [fb]
                rw [← es, ← ex]
                rw [if_pos ⟨by omega, by omega⟩]
  refine R_s (P := True) (f' := (4, [some (vR 2), some (vI (-1)), some (vI 0)], [], LAY A F, 0, 0)) hc19 4 rfl trivial ?_
  exact lp (n + 1) 0 _ _ rfl rfl (by omega) (by omega)
