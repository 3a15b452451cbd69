theorem lcm_eq {x y : Int} : ((if y < x then (1 : Int) else if x = y then 0 else -1) = 0) = (x = y) := by
  refine propext ⟨fun h => ?_, fun h => ?_⟩
  · revert h
    (repeat' split) <;> omega
  · rw [if_neg (by omega), if_pos h]
/-- whether the model's walk has a share lie at c when it has done all below i -/
def stU (P : List Int) (n : Nat) (al : Nat → Int) (ro i c : Nat) : Int := if SH P n al ro c = 0 then 0 else if c < i then al c else if c = ro ∨ rd P c < i then 1 else 0
theorem stU_01 {P : List Int} {n : Nat} {al : Nat → Int} (ha : ∀ p, p < n → al p = 0 ∨ al p = 1) (ro i c : Nat) (hc : c < n) : stU P n al ro i c = 0 ∨ stU P n al ro i c = 1 := by
  have := ha c hc
  unfold stU
  (repeat' split) <;> omega
theorem SH_par {P : List Int} {n : Nat} {al : Nat → Int} {ro c : Nat} (hT : TR P n) (hc : c < n) (h : SH P n al ro c ≠ 0) (hr : c ≠ ro) : ro < c ∧ 0 ≤ rd P c ∧ al (rd P c).toNat = 0 ∧ 0 < CN P n al c ∧ SH P n al ro (rd P c).toNat ≠ 0 ∧ SH P n al ro c = SH P n al ro (rd P c).toNat * HR P n al (rd P c).toNat ∧ ro ≤ (rd P c).toNat := by
  have h1 : ro < c := by
    refine Classical.byContradiction (fun q => h (SH_lt (by omega)))
  have h2 := SH_eq (al := al) hT hc h1
  by_cases e : 0 ≤ rd P c ∧ al (rd P c).toNat = 0 ∧ 0 < CN P n al c
  · rw [if_pos e] at h2
    have h3 : SH P n al ro (rd P c).toNat ≠ 0 := fun q => h (by rw [h2, q, Int.zero_mul])
    exact ⟨h1, e.1, e.2.1, e.2.2, h3, h2, Classical.byContradiction (fun q => h3 (SH_lt (by omega)))⟩
  · rw [if_neg e] at h2
    exact absurd h2 h
theorem stU_0 {P : List Int} {n : Nat} {al : Nat → Int} {ro c : Nat} (hT : TR P n) (hc : c < n) : stU P n al ro ro c = if c = ro then 1 else 0 := by
  unfold stU
  by_cases e : c = ro
  · subst e
    rw [SH_self, if_neg (by decide), if_neg (by omega), if_pos (.inl rfl), if_pos rfl]
  · rw [if_neg e]
    by_cases e2 : SH P n al ro c = 0
    · rw [if_pos e2]
    · have h := SH_par hT hc e2 e
      rw [if_neg e2, if_neg (by omega), if_neg (by omega)]
theorem stU_i {P : List Int} {n : Nat} {al : Nat → Int} {ro i : Nat} (hT : TR P n) (hi : i < n) : stU P n al ro i i = if SH P n al ro i = 0 then 0 else 1 := by
  have := hT i hi
  unfold stU
  by_cases e2 : SH P n al ro i = 0
  · rw [if_pos e2, if_pos e2]
  · rw [if_neg e2, if_neg e2, if_neg (by omega), if_pos (.inr (by omega))]
theorem stU_same {P : List Int} {n : Nat} {al : Nat → Int} {ro i : Nat} (hT : TR P n) (ha : ∀ p, p < n → al p = 0 ∨ al p = 1) (hi : i < n) (h : SH P n al ro i = 0 ∨ al i = 1) (c : Nat) (hc : c < n) : stU P n al ro (i + 1) c = stU P n al ro i c := by
  have hTi := hT i hi
  have hTc := hT c hc
  by_cases e2 : SH P n al ro c = 0
  · unfold stU
    rw [if_pos e2, if_pos e2]
  · unfold stU
    rw [if_neg e2, if_neg e2]
    by_cases e3 : c < i
    · rw [if_pos e3, if_pos (by omega)]
    · by_cases e4 : c = i
      · subst e4
        rw [if_pos (by omega), if_neg e3, if_pos (.inr (by omega))]
        omega
      · rw [if_neg (by omega), if_neg e3]
        by_cases e5 : c = ro
        · rw [if_pos (.inl e5), if_pos (.inl e5)]
        · have q := SH_par hT hc e2 e5
          by_cases e6 : rd P c = i
          · exfalso
            rw [show (rd P c).toNat = i by omega] at q
            omega
          · by_cases e7 : rd P c < i
            · rw [if_pos (.inr (by omega)), if_pos (.inr e7)]
            · rw [if_neg (by omega), if_neg (by omega)]
theorem HR_pos {P : List Int} {n : Nat} {al : Nat → Int} {c i : Nat} (hc : c < n) (h : rd P c = i) (h2 : 0 < CN P n al c) : 0 < HR P n al i := by
  have := sm_ge (g := fun c : Nat => if 0 ≤ c ∧ rd P c = i ∧ 0 < CN P n al c then (1 : Int) else 0) n hc (fun j hj => by (try dsimp only); split <;> omega)
  (try dsimp only at this)
  rw [if_pos ⟨by omega, h, h2⟩] at this
  unfold HR HT
  omega
theorem SH_ch {P : List Int} {n : Nat} {al : Nat → Int} {ro i c : Nat} (hT : TR P n) (h1 : SH P n al ro i ≠ 0) (h2 : al i = 0) (hc : c < n) (hp : rd P c = i) (h3 : 0 < CN P n al c) : SH P n al ro c = SH P n al ro i * HR P n al i ∧ SH P n al ro c ≠ 0 := by
  have hTc := hT c hc
  have h4 : ro ≤ i := Classical.byContradiction (fun q => h1 (SH_lt (by omega)))
  have h5 := SH_eq (al := al) (root := ro) hT hc (by omega)
  have e : (rd P c).toNat = i := by omega
  rw [e, if_pos ⟨by omega, h2, h3⟩] at h5
  refine ⟨h5, fun q => ?_⟩
  rw [q] at h5
  have h6 := HR_pos hc hp h3
  obtain z | z := Int.mul_eq_zero.mp h5.symm
  · exact h1 z
  · omega
theorem stU_push {P : List Int} {n : Nat} {al : Nat → Int} {ro i : Nat} (hT : TR P n) (ha : ∀ p, p < n → al p = 0 ∨ al p = 1) (hi : i < n) (h1 : SH P n al ro i ≠ 0) (h2 : al i = 0) (c : Nat) (hc : c < n) : stU P n al ro (i + 1) c = if c = i then 0 else if rd P c = i ∧ 0 < CN P n al c then 1 else stU P n al ro i c := by
  have hTi := hT i hi
  have hTc := hT c hc
  by_cases e4 : c = i
  · subst e4
    unfold stU
    rw [if_pos (c := c = c) rfl, if_neg h1, if_pos (by omega), h2]
  · rw [if_neg e4]
    by_cases e6 : rd P c = i ∧ 0 < CN P n al c
    · rw [if_pos e6]
      have q := SH_ch hT h1 h2 hc e6.1 e6.2
      unfold stU
      rw [if_neg q.2, if_neg (by omega), if_pos (.inr (by omega))]
    · rw [if_neg e6]
      unfold stU
      by_cases e2 : SH P n al ro c = 0
      · rw [if_pos e2, if_pos e2]
      · rw [if_neg e2, if_neg e2]
        by_cases e3 : c < i
        · rw [if_pos e3, if_pos (by omega)]
        · rw [if_neg (by omega), if_neg e3]
          by_cases e5 : c = ro
          · rw [if_pos (.inl e5), if_pos (.inl e5)]
          · have q := SH_par hT hc e2 e5
            by_cases e7 : rd P c < i
            · rw [if_pos (.inr (by omega)), if_pos (.inr e7)]
            · rw [if_neg (by omega), if_neg (by omega)]
theorem l_findShares {A : Nat → List Int} {F : Nat → Int} {n : Nat} (hn : (n : Int) = F 19) (hn30 : n ≤ 30) (h91 : (A 91).length = 30) (h92 : (A 92).length = 30) (h93 : (A 93).length = 30) (h94 : (A 94).length = 30) (hU : ∀ p : Nat, p < n → rd (A 93) p = 0 ∨ rd (A 93) p = 1) (hTk : ∀ p : Nat, p < n → rd (A 94) p = 0 ∨ rd (A 94) p = 1) {al : Nat → Int} (hal : ∀ p : Nat, p < n → al p = LV (F 18) (A 91) (A 93) (A 92) (fun p => rd (A 94) p) p) (hT : TR (A 90) n) (h90 : (A 90).length = 30) {root : Int} {ro : Nat} (hro : root = ro) (hr : ro < n) (h104 : (A 104).length = 30) (h105 : (A 105).length = 30) (h110 : (A 110).length = 30) (h111 : (A 111).length = 30) {how : Int} (hhow : how = 0 ∨ how = 1) : R 145 (0, L0 145 [vR 88, vI root, vI how], [], LAY A F, 0, 0) (fun r G => r = none ∧ ∃ l104 l105 l110 l111, G = LAY (u (u (u (u A 104 l104) 105 l105) 110 l110) 111 l111) F ∧ l104.length = 30 ∧ l105.length = 30 ∧ l110.length = 30 ∧ l111.length = 30 ∧ ∀ p : Nat, p < n → rd l110 p = (if SF (A 90) n al how ro p = 0 then 0 else 1) ∧ rd l111 p = (if SF (A 90) n al how ro p = 0 then 1 else SF (A 90) n al how ro p)) := by
  have ha : ∀ p : Nat, p < n → al p = 0 ∨ al p = 1 := fun p hp => by
    rw [hal p hp]
    exact LV_01 (hTk p hp)
  refine R_s (P := True) (f' := (2, [some (vR 88), some (vI root), some (vI how), none, none, none, none], [vI root, vR 88], LAY A F, 0, 0)) hc145 2 rfl trivial ?_
  refine R_cv hc145 rfl rfl (l_ofLine (A := A) hn hn30 h91 h92 h93 h94 hU hTk hal hT h90 hro hr h104 h105) (fun r G9 hp9 => ?_)
  obtain ⟨rfl, l104, l105, rfl, hl4, hl5, hf⟩ := hp9
  have cb := CN_bd (P := A 90) ha ro
  have cp := fun p => CN_pos (P := A 90) ha p
  refine R_s (f' := (5, [some (vR 88), some (vI root), some (vI how), none, none, none, none], [vI (CN (A 90) n al ro)], LAY (u (u A 104 l104) 105 l105) F, 0, 0)) hc145 0 rfl trivial ?_
  refine R_s (P := True) (f' := (9, [some (vR 88), some (vI root), some (vI how), some (vI (CN (A 90) n al ro)), some (vI 0), none, none], [], LAY (u (u A 104 l104) 105 l105) F, 0, 0)) hc145 3 rfl trivial ?_
  have hB : ¬ how = 1 → 0 < CN (A 90) n al ro → ∀ la lb : List Int, la.length = 30 → lb.length = 30 → (∀ p : Nat, p < n → rd la p = stU (A 90) n al ro ro p ∧ rd lb p = if stU (A 90) n al ro ro p = 1 then SH (A 90) n al ro p else 1) → R 145 (105, [some (vR 88), some (vI root), some (vI how), some (vI (CN (A 90) n al ro)), some (vI root), none, none], [], LAY (u (u (u (u A 104 l104) 105 l105) 110 la) 111 lb) F, 0, 0) (fun r G => r = none ∧ ∃ l104 l105 l110 l111, G = LAY (u (u (u (u A 104 l104) 105 l105) 110 l110) 111 l111) F ∧ l104.length = 30 ∧ l105.length = 30 ∧ l110.length = 30 ∧ l111.length = 30 ∧ ∀ p : Nat, p < n → rd l110 p = (if SF (A 90) n al how ro p = 0 then 0 else 1) ∧ rd l111 p = (if SF (A 90) n al how ro p = 0 then 1 else SF (A 90) n al how ro p)) := by
    intro hh hcn la0 lb0 hla0 hlb0 hz0
    have lpB : ∀ (m i : Nat) (x : Int) (y5 : Option AV) (y6 : Option AV) (la : List Int) (lb : List Int), x = (i : Int) → la.length = 30 → lb.length = 30 → (∀ p : Nat, p < n → rd la p = stU (A 90) n al ro i p ∧ rd lb p = if stU (A 90) n al ro i p = 1 then SH (A 90) n al ro p else 1) → ro ≤ i → i ≤ n → n + 1 ≤ i + m → R 145 (105, [some (vR 88), some (vI root), some (vI how), some (vI (CN (A 90) n al ro)), some (vI x), y5, y6], [], LAY (u (u (u (u A 104 l104) 105 l105) 110 la) 111 lb) F, 0, 0) (fun r G => r = none ∧ ∃ l104 l105 l110 l111, G = LAY (u (u (u (u A 104 l104) 105 l105) 110 l110) 111 l111) F ∧ l104.length = 30 ∧ l105.length = 30 ∧ l110.length = 30 ∧ l111.length = 30 ∧ ∀ p : Nat, p < n → rd l110 p = (if SF (A 90) n al how ro p = 0 then 0 else 1) ∧ rd l111 p = (if SF (A 90) n al how ro p = 0 then 1 else SF (A 90) n al how ro p)) := by
      intro m
      induction m with
      | zero =>
        intro i x y5 y6 la lb ex hla hlb hz hri hi hm
        exact absurd hm (by omega)
      | succ m ih =>
        intro i x y5 y6 la lb ex hla hlb hz hri hi hm
        refine R_s (P := True) (f' := (111, [some (vR 88), some (vI root), some (vI how), some (vI (CN (A 90) n al ro)), some (vI x), y5, y6], [vI (F 19), vI x], LAY (u (u (u (u A 104 l104) 105 l105) 110 la) 111 lb) F, 0, 0)) hc145 3 rfl trivial ?_
        refine R_ic (t := 282) hc145 rfl rfl (fun (c1 : F 19 ≤ x) => ?_) (fun (c1 : ¬ (F 19 ≤ x)) => ?_)
        · refine R_retv hc145 rfl rfl ⟨rfl, l104, l105, la, lb, rfl, hl4, hl5, hla, hlb, fun p hp => ?_⟩
          have z := hz p hp
          have g3 := ha p hp
          have e : stU (A 90) n al ro i p = if SH (A 90) n al ro p = 0 then 0 else al p := by
            unfold stU
            by_cases e2 : SH (A 90) n al ro p = 0
            · rw [if_pos e2, if_pos e2]
            · rw [if_neg e2, if_neg e2, if_pos (by omega)]
          have e3 : SF (A 90) n al how ro p = if al p = 1 then SH (A 90) n al ro p else 0 := by
            unfold SF
            rw [if_neg (by omega), if_neg (by omega)]
          rw [z.1, z.2, e, e3]
          (repeat' split) <;> omega
        · refine R_s (P := (0 ≤ x ∧ x < ((la).length : Int)) ∧ True) (f' := (123, [some (vR 88), some (vI root), some (vI how), some (vI (CN (A 90) n al ro)), some (vI x), y5, y6], [vI (if 0 < rd la x then 1 else if rd la x = 0 then 0 else -1)], LAY (u (u (u (u A 104 l104) 105 l105) 110 la) 111 lb) F, 0, 0)) hc145 6 rfl ⟨⟨by omega, by omega⟩, trivial⟩ ?_
          refine R_if (t := 276) hc145 rfl rfl (fun (c2 : (if 0 < rd la x then 1 else if rd la x = 0 then 0 else -1) = 0) => ?_) (fun (c2 : ¬ ((if 0 < rd la x then 1 else if rd la x = 0 then 0 else -1) = 0)) => ?_)
          · rw [lcm_eq] at c2
            refine R_s (P := inI (x + 1) ∧ True) (f' := (105, [some (vR 88), some (vI root), some (vI how), some (vI (CN (A 90) n al ro)), some (vI (x + 1)), y5, y6], [], LAY (u (u (u (u A 104 l104) 105 l105) 110 la) 111 lb) F, 0, 0)) hc145 2 rfl ⟨⟨by omega, by omega⟩, trivial⟩ ?_
            have sx := stU_i (al := al) (ro := ro) hT (i := i) (by omega)
            have zx := hz i (by omega)
            rw [← ex] at zx
            have ss := stU_same (ro := ro) hT ha (i := i) (by omega) (by
              by_cases e : SH (A 90) n al ro i = 0
              · exact .inl e
              · rw [if_neg e] at sx
                have g3 := ha i (by omega)
                exact .inr (by omega))
            exact ih (i + 1) _ _ _ _ _ (by omega) hla hlb (fun p hp => by rw [ss p hp]; exact hz p hp) (by omega) (by omega) (by omega)
          · rw [lcm_eq] at c2
            refine R_s (P := True) (f' := (129, [some (vR 88), some (vI root), some (vI how), some (vI (CN (A 90) n al ro)), some (vI x), y5, y6], [vI x, vR 88], LAY (u (u (u (u A 104 l104) 105 l105) 110 la) 111 lb) F, 0, 0)) hc145 2 rfl trivial ?_
            refine R_cv hc145 rfl rfl (l_lives (A := (u (u (u (u A 104 l104) 105 l105) 110 la) 111 lb)) (F := F) hn hn30 h91 h92 h93 h94 hU hTk hal (k := i) ex (by omega)) (fun r G9 hp9 => ?_)
            obtain ⟨rfl, rfl⟩ := hp9
            refine R_s (f' := (132, [some (vR 88), some (vI root), some (vI how), some (vI (CN (A 90) n al ro)), some (vI x), y5, y6], [vI (al i)], LAY (u (u (u (u A 104 l104) 105 l105) 110 la) 111 lb) F, 0, 0)) hc145 0 rfl trivial ?_
            refine R_if (t := 276) hc145 rfl rfl (fun (c3 : ¬ al i = 0) => ?_) (fun (c3 : ¬ (¬ al i = 0)) => ?_)
            · refine R_s (P := inI (x + 1) ∧ True) (f' := (105, [some (vR 88), some (vI root), some (vI how), some (vI (CN (A 90) n al ro)), some (vI (x + 1)), y5, y6], [], LAY (u (u (u (u A 104 l104) 105 l105) 110 la) 111 lb) F, 0, 0)) hc145 2 rfl ⟨⟨by omega, by omega⟩, trivial⟩ ?_
              have sx := stU_i (al := al) (ro := ro) hT (i := i) (by omega)
              have zx := hz i (by omega)
              rw [← ex] at zx
              have ss := stU_same (ro := ro) hT ha (i := i) (by omega) (by
                by_cases e : SH (A 90) n al ro i = 0
                · exact .inl e
                · rw [if_neg e] at sx
                  have g3 := ha i (by omega)
                  exact .inr (by omega))
              exact ih (i + 1) _ _ _ _ _ (by omega) hla hlb (fun p hp => by rw [ss p hp]; exact hz p hp) (by omega) (by omega) (by omega)
            · refine R_s (P := inI (x + 1) ∧ True) (f' := (144, [some (vR 88), some (vI root), some (vI how), some (vI (CN (A 90) n al ro)), some (vI x), some (vI 0), some (vI (x + 1))], [], LAY (u (u (u (u A 104 l104) 105 l105) 110 la) 111 lb) F, 0, 0)) hc145 6 rfl ⟨⟨by omega, by omega⟩, trivial⟩ ?_
              have zx := hz i (by omega)
              have sx := stU_i (al := al) (ro := ro) hT (i := i) (by omega)
              rw [← ex] at zx
              have hS : SH (A 90) n al ro i ≠ 0 := fun q => by
                rw [if_pos q] at sx
                omega
              rw [if_neg hS] at sx
              rw [sx, if_pos rfl] at zx
              have hA : al i = 0 := by
                have := ha i (by omega)
                omega
              have sb := SH_bd (al := al) (root := ro) hT hn30 (p := i) (by omega)
              have hb9 := HT_bd (P := A 90) (n := n) (t := 0) (p := i) (al := al)
              have lpC : ∀ (mj j : Nat) (y : Int) (s : Int), y = (j : Int) → s = sm (fun c : Nat => if 0 ≤ c ∧ rd (A 90) c = i ∧ 0 < CN (A 90) n al c then 1 else 0) j → j ≤ n → n + 1 ≤ j + mj → R 145 (144, [some (vR 88), some (vI root), some (vI how), some (vI (CN (A 90) n al ro)), some (vI x), some (vI s), some (vI y)], [], LAY (u (u (u (u A 104 l104) 105 l105) 110 la) 111 lb) F, 0, 0) (fun r G => r = none ∧ ∃ l104 l105 l110 l111, G = LAY (u (u (u (u A 104 l104) 105 l105) 110 l110) 111 l111) F ∧ l104.length = 30 ∧ l105.length = 30 ∧ l110.length = 30 ∧ l111.length = 30 ∧ ∀ p : Nat, p < n → rd l110 p = (if SF (A 90) n al how ro p = 0 then 0 else 1) ∧ rd l111 p = (if SF (A 90) n al how ro p = 0 then 1 else SF (A 90) n al how ro p)) := by
                intro mj
                induction mj with
                | zero =>
                  intro j y s ey es hj hmj
                  exact absurd hmj (by omega)
                | succ mj ihj =>
                  intro j y s ey es hj hmj
                  have hbd := sm_bd (g := fun c : Nat => if 0 ≤ c ∧ rd (A 90) c = i ∧ 0 < CN (A 90) n al c then 1 else 0) (b := 1) j (fun j hj => by (try dsimp only); split <;> omega)
                  rw [← es] at hbd
                  have f1 := hf j
                  have hTj := hT j
                  rw [← ey] at f1 hTj
                  refine R_s (P := True) (f' := (150, [some (vR 88), some (vI root), some (vI how), some (vI (CN (A 90) n al ro)), some (vI x), some (vI s), some (vI y)], [vI (F 19), vI y], LAY (u (u (u (u A 104 l104) 105 l105) 110 la) 111 lb) F, 0, 0)) hc145 3 rfl trivial ?_
                  refine R_ic (t := 191) hc145 rfl rfl (fun (c1 : F 19 ≤ y) => ?_) (fun (c1 : ¬ (F 19 ≤ y)) => ?_)
                  · refine R_s (P := inI (x + 1) ∧ True) (f' := (197, [some (vR 88), some (vI root), some (vI how), some (vI (CN (A 90) n al ro)), some (vI x), some (vI s), some (vI (x + 1))], [], LAY (u (u (u (u A 104 l104) 105 l105) 110 la) 111 lb) F, 0, 0)) hc145 4 rfl ⟨⟨by omega, by omega⟩, trivial⟩ ?_
                    have en : s = HR (A 90) n al i := by
                      rw [es, show j = n by omega]
                      rfl
                    subst en
                    clear es
                    have lpD : ∀ (mj j : Nat) (y : Int) (a2 : List Int) (b2 : List Int), y = (j : Int) → a2.length = 30 → b2.length = 30 → (∀ c : Nat, c < n → rd a2 c = (if c < j ∧ rd (A 90) c = i ∧ 0 < CN (A 90) n al c then 1 else stU (A 90) n al ro i c) ∧ rd b2 c = (if c < j ∧ rd (A 90) c = i ∧ 0 < CN (A 90) n al c then SH (A 90) n al ro c else if stU (A 90) n al ro i c = 1 then SH (A 90) n al ro c else 1)) → i < j → j ≤ n → n + 1 ≤ j + mj → R 145 (197, [some (vR 88), some (vI root), some (vI how), some (vI (CN (A 90) n al ro)), some (vI x), some (vI (HR (A 90) n al i)), some (vI y)], [], LAY (u (u (u (u A 104 l104) 105 l105) 110 a2) 111 b2) F, 0, 0) (fun r G => r = none ∧ ∃ l104 l105 l110 l111, G = LAY (u (u (u (u A 104 l104) 105 l105) 110 l110) 111 l111) F ∧ l104.length = 30 ∧ l105.length = 30 ∧ l110.length = 30 ∧ l111.length = 30 ∧ ∀ p : Nat, p < n → rd l110 p = (if SF (A 90) n al how ro p = 0 then 0 else 1) ∧ rd l111 p = (if SF (A 90) n al how ro p = 0 then 1 else SF (A 90) n al how ro p)) := by
                      intro mj
                      induction mj with
                      | zero =>
                        intro j y a2 b2 ey hla2 hlb2 hz2 hij hj hmj
                        exact absurd hmj (by omega)
                      | succ mj ihj =>
                        intro j y a2 b2 ey hla2 hlb2 hz2 hij hj hmj
                        have f1 := hf j
                        have hTj := hT j
                        have zi := (hz2 i (by omega)).2
                        rw [if_neg (by have := hT i (by omega); omega), stU_i hT (by omega), if_neg hS, if_pos rfl] at zi
                        rw [← ey] at f1 hTj
                        rw [← ex] at zi
                        have sc := SH_ch (ro := ro) (c := j) hT hS hA
                        rw [← ey] at sc
                        have hsc : x = (i : Int) := ex
                        refine R_s (P := True) (f' := (203, [some (vR 88), some (vI root), some (vI how), some (vI (CN (A 90) n al ro)), some (vI x), some (vI (HR (A 90) n al i)), some (vI y)], [vI (F 19), vI y], LAY (u (u (u (u A 104 l104) 105 l105) 110 a2) 111 b2) F, 0, 0)) hc145 3 rfl trivial ?_
                        refine R_ic (t := 260) hc145 rfl rfl (fun (c1 : F 19 ≤ y) => ?_) (fun (c1 : ¬ (F 19 ≤ y)) => ?_)
                        · refine R_s (P := (0 ≤ x ∧ x < ((a2).length : Int)) ∧ (0 ≤ x ∧ x < ((b2).length : Int)) ∧ inI (x + 1) ∧ True) (f' := (105, [some (vR 88), some (vI root), some (vI how), some (vI (CN (A 90) n al ro)), some (vI (x + 1)), some (vI (HR (A 90) n al i)), some (vI y)], [], LAY (u (u (u (u A 104 l104) 105 l105) 110 (wr a2 x 0)) 111 (wr b2 x 1)) F, 0, 0)) hc145 12 rfl ⟨⟨by omega, by omega⟩, ⟨by omega, by omega⟩, ⟨by omega, by omega⟩, trivial⟩ ?_
                          refine ih (i + 1) _ _ _ _ _ (by omega) (by rw [wr_len]; exact hla2) (by rw [wr_len]; exact hlb2) (fun p hp => ?_) (by omega) (by omega) (by omega)
                          have sp := stU_push (ro := ro) hT ha (i := i) (by omega) hS hA p hp
                          have z := hz2 p hp
                          rw [rd_wr (by omega) (by omega) (by omega), rd_wr (by omega) (by omega) (by omega)]
                          by_cases e : p = i
                          · rw [if_pos (by omega), if_pos (by omega), sp, if_pos e]
                            exact ⟨rfl, rfl⟩
                          · rw [if_neg (by omega), if_neg (by omega), sp, if_neg e, z.1, z.2]
                            by_cases e2 : rd (A 90) p = i ∧ 0 < CN (A 90) n al p
                            · have e3 : p < j ∧ rd (A 90) p = i ∧ 0 < CN (A 90) n al p := ⟨by omega, e2⟩
                              rw [if_pos e2, if_pos e3, if_pos e3]
                              exact ⟨rfl, rfl⟩
                            · have e3 : ¬ (p < j ∧ rd (A 90) p = i ∧ 0 < CN (A 90) n al p) := fun q => e2 q.2
                              rw [if_neg e2, if_neg e3, if_neg e3]
                              exact ⟨rfl, rfl⟩
                        · refine R_s (P := (0 ≤ y ∧ y < ((A 90).length : Int)) ∧ True) (f' := (215, [some (vR 88), some (vI root), some (vI how), some (vI (CN (A 90) n al ro)), some (vI x), some (vI (HR (A 90) n al i)), some (vI y)], [vI x, vI (rd (A 90) y)], LAY (u (u (u (u A 104 l104) 105 l105) 110 a2) 111 b2) F, 0, 0)) hc145 5 rfl ⟨⟨by omega, by omega⟩, trivial⟩ ?_
                          refine R_ic (t := 254) hc145 rfl rfl (fun (c2 : ¬ rd (A 90) y = x) => ?_) (fun (c2 : ¬ (¬ rd (A 90) y = x)) => ?_)
                          · refine R_s (P := inI (y + 1) ∧ True) (f' := (197, [some (vR 88), some (vI root), some (vI how), some (vI (CN (A 90) n al ro)), some (vI x), some (vI (HR (A 90) n al i)), some (vI (y + 1))], [], LAY (u (u (u (u A 104 l104) 105 l105) 110 a2) 111 b2) F, 0, 0)) hc145 2 rfl ⟨⟨by omega, by omega⟩, trivial⟩ ?_
                            have f2 := f1 (by omega)
                            refine ihj (j + 1) _ _ _ (by omega) hla2 hlb2 (fun p hp => ?_) (by omega) (by omega) (by omega)
                            have z := hz2 p hp
                            rw [z.1, z.2]
                            by_cases e2 : rd (A 90) p = i ∧ 0 < CN (A 90) n al p
                            · by_cases e3 : p < j
                              · have a1 : p < j ∧ rd (A 90) p = i ∧ 0 < CN (A 90) n al p := ⟨e3, e2⟩
                                have a2 : p < j + 1 ∧ rd (A 90) p = i ∧ 0 < CN (A 90) n al p := ⟨by omega, e2⟩
                                rw [if_pos a1, if_pos a1, if_pos a2, if_pos a2]
                                exact ⟨rfl, rfl⟩
                              · have e4 : ¬ p < j + 1 := fun q => by
                                  have e5 : p = j := by omega
                                  have e6 := f2.2.2
                                  rw [e5, ← ey] at e2
                                  have e7 := e6.mpr e2.2
                                  omega
                                have a1 : ¬ (p < j ∧ rd (A 90) p = i ∧ 0 < CN (A 90) n al p) := fun q => e3 q.1
                                have a2 : ¬ (p < j + 1 ∧ rd (A 90) p = i ∧ 0 < CN (A 90) n al p) := fun q => e4 q.1
                                rw [if_neg a1, if_neg a1, if_neg a2, if_neg a2]
                                exact ⟨rfl, rfl⟩
                            · have a1 : ¬ (p < j ∧ rd (A 90) p = i ∧ 0 < CN (A 90) n al p) := fun q => e2 q.2
                              have a2 : ¬ (p < j + 1 ∧ rd (A 90) p = i ∧ 0 < CN (A 90) n al p) := fun q => e2 q.2
                              rw [if_neg a1, if_neg a1, if_neg a2, if_neg a2]
                              exact ⟨rfl, rfl⟩
                          · refine R_s (P := (0 ≤ y ∧ y < ((l105).length : Int)) ∧ True) (f' := (225, [some (vR 88), some (vI root), some (vI how), some (vI (CN (A 90) n al ro)), some (vI x), some (vI (HR (A 90) n al i)), some (vI y)], [vI (rd l105 y)], LAY (u (u (u (u A 104 l104) 105 l105) 110 a2) 111 b2) F, 0, 0)) hc145 4 rfl ⟨⟨by omega, by omega⟩, trivial⟩ ?_
                            refine R_if (t := 254) hc145 rfl rfl (fun (c3 : rd l105 y = 0) => ?_) (fun (c3 : ¬ (rd l105 y = 0)) => ?_)
                            · refine R_s (P := inI (y + 1) ∧ True) (f' := (197, [some (vR 88), some (vI root), some (vI how), some (vI (CN (A 90) n al ro)), some (vI x), some (vI (HR (A 90) n al i)), some (vI (y + 1))], [], LAY (u (u (u (u A 104 l104) 105 l105) 110 a2) 111 b2) F, 0, 0)) hc145 2 rfl ⟨⟨by omega, by omega⟩, trivial⟩ ?_
                              have f2 := f1 (by omega)
                              refine ihj (j + 1) _ _ _ (by omega) hla2 hlb2 (fun p hp => ?_) (by omega) (by omega) (by omega)
                              have z := hz2 p hp
                              rw [z.1, z.2]
                              by_cases e2 : rd (A 90) p = i ∧ 0 < CN (A 90) n al p
                              · by_cases e3 : p < j
                                · have a1 : p < j ∧ rd (A 90) p = i ∧ 0 < CN (A 90) n al p := ⟨e3, e2⟩
                                  have a2 : p < j + 1 ∧ rd (A 90) p = i ∧ 0 < CN (A 90) n al p := ⟨by omega, e2⟩
                                  rw [if_pos a1, if_pos a1, if_pos a2, if_pos a2]
                                  exact ⟨rfl, rfl⟩
                                · have e4 : ¬ p < j + 1 := fun q => by
                                    have e5 : p = j := by omega
                                    have e6 := f2.2.2
                                    rw [e5, ← ey] at e2
                                    have e7 := e6.mpr e2.2
                                    omega
                                  have a1 : ¬ (p < j ∧ rd (A 90) p = i ∧ 0 < CN (A 90) n al p) := fun q => e3 q.1
                                  have a2 : ¬ (p < j + 1 ∧ rd (A 90) p = i ∧ 0 < CN (A 90) n al p) := fun q => e4 q.1
                                  rw [if_neg a1, if_neg a1, if_neg a2, if_neg a2]
                                  exact ⟨rfl, rfl⟩
                              · have a1 : ¬ (p < j ∧ rd (A 90) p = i ∧ 0 < CN (A 90) n al p) := fun q => e2 q.2
                                have a2 : ¬ (p < j + 1 ∧ rd (A 90) p = i ∧ 0 < CN (A 90) n al p) := fun q => e2 q.2
                                rw [if_neg a1, if_neg a1, if_neg a2, if_neg a2]
                                exact ⟨rfl, rfl⟩
                            · refine R_s (P := (0 ≤ y ∧ y < ((a2).length : Int)) ∧ (0 ≤ x ∧ x < ((b2).length : Int)) ∧ inL ((rd b2 x) * (HR (A 90) n al i)) ∧ (0 ≤ y ∧ y < ((b2).length : Int)) ∧ inI (y + 1) ∧ True) (f' := (197, [some (vR 88), some (vI root), some (vI how), some (vI (CN (A 90) n al ro)), some (vI x), some (vI (HR (A 90) n al i)), some (vI (y + 1))], [], LAY (u (u (u (u A 104 l104) 105 l105) 110 (wr a2 y 1)) 111 (wr b2 y ((rd b2 x) * (HR (A 90) n al i)))) F, 0, 0)) hc145 18 rfl ⟨⟨by omega, by omega⟩, ⟨by omega, by omega⟩, (by rw [zi]; have q9 := sc (by omega) (by omega) ((f1 (by omega)).2.2.mp (by omega)); have q8 := SH_bd (al := al) (root := ro) hT hn30 (p := j) (by omega); rw [← q9.1]; unfold inL; omega), ⟨by omega, by omega⟩, ⟨by omega, by omega⟩, trivial⟩ ?_
                              have f2 := f1 (by omega)
                              refine ihj (j + 1) _ _ _ (by omega) (by rw [wr_len]; exact hla2) (by rw [wr_len]; exact hlb2) (fun p hp => ?_) (by omega) (by omega) (by omega)
                              have z := hz2 p hp
                              have c5 : 0 < CN (A 90) n al j := f2.2.2.mp (by omega)
                              have sc2 := sc (by omega) (by omega) c5
                              rw [rd_wr (by omega) (by omega) (by omega), rd_wr (by omega) (by omega) (by omega)]
                              by_cases e : (p : Int) = y
                              · have e2 : p = j := by omega
                                have e3 : p < j + 1 ∧ rd (A 90) p = i ∧ 0 < CN (A 90) n al p := ⟨by omega, by rw [e]; omega, by rw [e2]; exact c5⟩
                                rw [if_pos e, if_pos e, if_pos e3, if_pos e3, zi, e2, sc2.1]
                                exact ⟨rfl, rfl⟩
                              · rw [if_neg e, if_neg e, z.1, z.2]
                                by_cases e2 : rd (A 90) p = i ∧ 0 < CN (A 90) n al p
                                · by_cases e3 : p < j
                                  · have a1 : p < j ∧ rd (A 90) p = i ∧ 0 < CN (A 90) n al p := ⟨e3, e2⟩
                                    have a2 : p < j + 1 ∧ rd (A 90) p = i ∧ 0 < CN (A 90) n al p := ⟨by omega, e2⟩
                                    rw [if_pos a1, if_pos a1, if_pos a2, if_pos a2]
                                    exact ⟨rfl, rfl⟩
                                  · have a1 : ¬ (p < j ∧ rd (A 90) p = i ∧ 0 < CN (A 90) n al p) := fun q => e3 q.1
                                    have a2 : ¬ (p < j + 1 ∧ rd (A 90) p = i ∧ 0 < CN (A 90) n al p) := fun q => absurd q.1 (by omega)
                                    rw [if_neg a1, if_neg a1, if_neg a2, if_neg a2]
                                    exact ⟨rfl, rfl⟩
                                · have a1 : ¬ (p < j ∧ rd (A 90) p = i ∧ 0 < CN (A 90) n al p) := fun q => e2 q.2
                                  have a2 : ¬ (p < j + 1 ∧ rd (A 90) p = i ∧ 0 < CN (A 90) n al p) := fun q => e2 q.2
                                  rw [if_neg a1, if_neg a1, if_neg a2, if_neg a2]
                                  exact ⟨rfl, rfl⟩
                    refine lpD (n + 1) (i + 1) _ _ _ (by omega) hla hlb (fun c hc => ?_) (by omega) (by omega) (by omega)
                    have e : ¬ (c < i + 1 ∧ rd (A 90) c = i ∧ 0 < CN (A 90) n al c) := fun q => by
                      have := hT c hc
                      omega
                    rw [if_neg e, if_neg e]
                    exact hz c hc
                  · refine R_s (P := (0 ≤ y ∧ y < ((A 90).length : Int)) ∧ True) (f' := (164, [some (vR 88), some (vI root), some (vI how), some (vI (CN (A 90) n al ro)), some (vI x), some (vI s), some (vI y)], [vI x, vI (rd (A 90) y), vI s], LAY (u (u (u (u A 104 l104) 105 l105) 110 la) 111 lb) F, 0, 0)) hc145 6 rfl ⟨⟨by omega, by omega⟩, trivial⟩ ?_
                    refine R_ic (t := 181) hc145 rfl rfl (fun (c2 : ¬ rd (A 90) y = x) => ?_) (fun (c2 : ¬ (¬ rd (A 90) y = x)) => ?_)
                    · refine R_s (P := inI (s + 0) ∧ inI (y + 1) ∧ True) (f' := (144, [some (vR 88), some (vI root), some (vI how), some (vI (CN (A 90) n al ro)), some (vI x), some (vI (s + 0)), some (vI (y + 1))], [], LAY (u (u (u (u A 104 l104) 105 l105) 110 la) 111 lb) F, 0, 0)) hc145 5 rfl ⟨⟨by omega, by omega⟩, ⟨by omega, by omega⟩, trivial⟩ ?_
                      have f2 := f1 (by omega)
                      refine ihj (j + 1) _ _ (by omega) ?_ (by omega) (by omega)
                      simp only [sm]
                      rw [← es, ← ey]
                      by_cases e : 0 ≤ j ∧ rd (A 90) y = i ∧ 0 < CN (A 90) n al j
                      · rw [if_pos e]
                        (try (have := f2.2.2.mpr e.2.2; omega))
                      · rw [if_neg e]
                        (try (have := f2.2.2; first | omega | (exfalso; exact e ⟨by omega, by omega, this.mp (by omega)⟩)))
                    · refine R_s (P := (0 ≤ y ∧ y < ((l105).length : Int)) ∧ True) (f' := (174, [some (vR 88), some (vI root), some (vI how), some (vI (CN (A 90) n al ro)), some (vI x), some (vI s), some (vI y)], [vI (rd l105 y), vI s], LAY (u (u (u (u A 104 l104) 105 l105) 110 la) 111 lb) F, 0, 0)) hc145 4 rfl ⟨⟨by omega, by omega⟩, trivial⟩ ?_
                      refine R_if (t := 181) hc145 rfl rfl (fun (c3 : rd l105 y = 0) => ?_) (fun (c3 : ¬ (rd l105 y = 0)) => ?_)
                      · refine R_s (P := inI (s + 0) ∧ inI (y + 1) ∧ True) (f' := (144, [some (vR 88), some (vI root), some (vI how), some (vI (CN (A 90) n al ro)), some (vI x), some (vI (s + 0)), some (vI (y + 1))], [], LAY (u (u (u (u A 104 l104) 105 l105) 110 la) 111 lb) F, 0, 0)) hc145 5 rfl ⟨⟨by omega, by omega⟩, ⟨by omega, by omega⟩, trivial⟩ ?_
                        have f2 := f1 (by omega)
                        refine ihj (j + 1) _ _ (by omega) ?_ (by omega) (by omega)
                        simp only [sm]
                        rw [← es, ← ey]
                        by_cases e : 0 ≤ j ∧ rd (A 90) y = i ∧ 0 < CN (A 90) n al j
                        · rw [if_pos e]
                          (try (have := f2.2.2.mpr e.2.2; omega))
                        · rw [if_neg e]
                          (try (have := f2.2.2; first | omega | (exfalso; exact e ⟨by omega, by omega, this.mp (by omega)⟩)))
                      · refine R_s (P := inI (s + 1) ∧ inI (y + 1) ∧ True) (f' := (144, [some (vR 88), some (vI root), some (vI how), some (vI (CN (A 90) n al ro)), some (vI x), some (vI (s + 1)), some (vI (y + 1))], [], LAY (u (u (u (u A 104 l104) 105 l105) 110 la) 111 lb) F, 0, 0)) hc145 6 rfl ⟨⟨by omega, by omega⟩, ⟨by omega, by omega⟩, trivial⟩ ?_
                        have f2 := f1 (by omega)
                        refine ihj (j + 1) _ _ (by omega) ?_ (by omega) (by omega)
                        simp only [sm]
                        rw [← es, ← ey]
                        by_cases e : 0 ≤ j ∧ rd (A 90) y = i ∧ 0 < CN (A 90) n al j
                        · rw [if_pos e]
                          (try (have := f2.2.2.mpr e.2.2; omega))
                        · rw [if_neg e]
                          (try (have := f2.2.2; first | omega | (exfalso; exact e ⟨by omega, by omega, this.mp (by omega)⟩)))
              exact lpC (n + 1) (i + 1) _ _ (by omega) (sm_zero _ (fun c hc => if_neg (by have := hT c (by omega); omega))).symm (by omega) (by omega)
    exact lpB (n + 1) ro _ _ _ _ _ hro hla0 hlb0 hz0 (by omega) (by omega) (by omega)
  have lpA : ∀ (m i : Nat) (x : Int) (la : List Int) (lb : List Int), x = (i : Int) → la.length = 30 → lb.length = 30 → (∀ p : Nat, p < i → rd la p = (if how = 1 ∧ rq (A 90) 0 ro p = 1 ∧ al p = 1 then 1 else 0) ∧ rd lb p = (if how = 1 ∧ rq (A 90) 0 ro p = 1 ∧ al p = 1 then CN (A 90) n al ro else 1)) → i ≤ n → n + 1 ≤ i + m → R 145 (9, [some (vR 88), some (vI root), some (vI how), some (vI (CN (A 90) n al ro)), some (vI x), none, none], [], LAY (u (u (u (u A 104 l104) 105 l105) 110 la) 111 lb) F, 0, 0) (fun r G => r = none ∧ ∃ l104 l105 l110 l111, G = LAY (u (u (u (u A 104 l104) 105 l105) 110 l110) 111 l111) F ∧ l104.length = 30 ∧ l105.length = 30 ∧ l110.length = 30 ∧ l111.length = 30 ∧ ∀ p : Nat, p < n → rd l110 p = (if SF (A 90) n al how ro p = 0 then 0 else 1) ∧ rd l111 p = (if SF (A 90) n al how ro p = 0 then 1 else SF (A 90) n al how ro p)) := by
    intro m
    induction m with
    | zero =>
      intro i x la lb ex hla hlb hz hi hm
      exact absurd hm (by omega)
    | succ m ih =>
      intro i x la lb ex hla hlb hz hi hm
      have f1 := hf i
      have g3 := ha i
      rw [← ex] at f1
      refine R_s (P := True) (f' := (15, [some (vR 88), some (vI root), some (vI how), some (vI (CN (A 90) n al ro)), some (vI x), none, none], [vI (F 19), vI x], LAY (u (u (u (u A 104 l104) 105 l105) 110 la) 111 lb) F, 0, 0)) hc145 3 rfl trivial ?_
      refine R_ic (t := 85) hc145 rfl rfl (fun (c1 : F 19 ≤ x) => ?_) (fun (c1 : ¬ (F 19 ≤ x)) => ?_)
      · refine R_s (P := True) (f' := (87, [some (vR 88), some (vI root), some (vI how), some (vI (CN (A 90) n al ro)), some (vI x), none, none], [vI 1, vI how], LAY (u (u (u (u A 104 l104) 105 l105) 110 la) 111 lb) F, 0, 0)) hc145 2 rfl trivial ?_
        refine R_ic (t := 94) hc145 rfl rfl (fun (c2 : how = 1) => ?_) (fun (c2 : ¬ (how = 1)) => ?_)
        · refine R_retv hc145 rfl rfl ⟨rfl, l104, l105, la, lb, rfl, hl4, hl5, hla, hlb, fun p hp => ?_⟩
          have z := hz p (by omega)
          have e3 : SF (A 90) n al how ro p = if how = 1 ∧ rq (A 90) 0 ro p = 1 ∧ al p = 1 then CN (A 90) n al ro else 0 := by
            unfold SF
            by_cases e : CN (A 90) n al ro = 0
            · rw [if_pos e, e]
              split <;> rfl
            · rw [if_neg e]
              by_cases e2 : how = 1
              · rw [if_pos e2]
                by_cases e4 : rq (A 90) 0 ro p = 1 ∧ al p = 1
                · rw [if_pos e4, if_pos ⟨e2, e4⟩]
                · rw [if_neg e4, if_neg (fun q => e4 q.2)]
              · exfalso
                omega
          have e5 : how = 1 ∧ rq (A 90) 0 ro p = 1 ∧ al p = 1 → 0 < CN (A 90) n al ro := fun q => (cp ro).mpr ⟨p, hp, q.2⟩
          obtain ⟨z1, z2⟩ := z
          by_cases e6 : how = 1 ∧ rq (A 90) 0 ro p = 1 ∧ al p = 1
          · have e7 := e5 e6
            rw [if_pos e6] at z1 z2 e3
            exact ⟨by rw [z1, e3, if_neg (by omega)], by rw [z2, e3, if_neg (by omega)]⟩
          · rw [if_neg e6] at z1 z2 e3
            exact ⟨by rw [z1, e3, if_pos rfl], by rw [z2, e3, if_pos rfl]⟩
        · refine R_s (P := True) (f' := (91, [some (vR 88), some (vI root), some (vI how), some (vI (CN (A 90) n al ro)), some (vI x), none, none], [vI (CN (A 90) n al ro)], LAY (u (u (u (u A 104 l104) 105 l105) 110 la) 111 lb) F, 0, 0)) hc145 1 rfl trivial ?_
          refine R_if (t := 95) hc145 rfl rfl (fun (c3 : ¬ CN (A 90) n al ro = 0) => ?_) (fun (c3 : ¬ (¬ CN (A 90) n al ro = 0)) => ?_)
          · refine R_s (P := (0 ≤ root ∧ root < ((la).length : Int)) ∧ True) (f' := (105, [some (vR 88), some (vI root), some (vI how), some (vI (CN (A 90) n al ro)), some (vI root), none, none], [], LAY (u (u (u (u A 104 l104) 105 l105) 111 lb) 110 (wr la root 1)) F, 0, 0)) hc145 7 rfl ⟨⟨by omega, by omega⟩, trivial⟩ ?_
            refine hB (by omega) (by omega) (wr la root 1) lb (by rw [wr_len]; exact hla) hlb (fun p hp => ?_)
            rw [stU_0 hT hp, rd_wr (by omega) (by omega) (by omega)]
            have z := hz p (by omega)
            rw [if_neg (fun q => by omega), if_neg (fun q => by omega)] at z
            by_cases e : p = ro
            · rw [if_pos (by omega), if_pos e, if_pos rfl, e, SH_self, ← e, z.2]
              exact ⟨rfl, rfl⟩
            · rw [if_neg (by omega), if_neg e, if_neg (by decide)]
              exact z
          · refine R_retv hc145 rfl rfl ⟨rfl, l104, l105, la, lb, rfl, hl4, hl5, hla, hlb, fun p hp => ?_⟩
            have z := hz p (by omega)
            have e3 : SF (A 90) n al how ro p = if how = 1 ∧ rq (A 90) 0 ro p = 1 ∧ al p = 1 then CN (A 90) n al ro else 0 := by
              unfold SF
              by_cases e : CN (A 90) n al ro = 0
              · rw [if_pos e, e]
                split <;> rfl
              · rw [if_neg e]
                by_cases e2 : how = 1
                · rw [if_pos e2]
                  by_cases e4 : rq (A 90) 0 ro p = 1 ∧ al p = 1
                  · rw [if_pos e4, if_pos ⟨e2, e4⟩]
                  · rw [if_neg e4, if_neg (fun q => e4 q.2)]
                · exfalso
                  omega
            have e5 : how = 1 ∧ rq (A 90) 0 ro p = 1 ∧ al p = 1 → 0 < CN (A 90) n al ro := fun q => (cp ro).mpr ⟨p, hp, q.2⟩
            obtain ⟨z1, z2⟩ := z
            by_cases e6 : how = 1 ∧ rq (A 90) 0 ro p = 1 ∧ al p = 1
            · have e7 := e5 e6
              rw [if_pos e6] at z1 z2 e3
              exact ⟨by rw [z1, e3, if_neg (by omega)], by rw [z2, e3, if_neg (by omega)]⟩
            · rw [if_neg e6] at z1 z2 e3
              exact ⟨by rw [z1, e3, if_pos rfl], by rw [z2, e3, if_pos rfl]⟩
      · refine R_s (P := True) (f' := (26, [some (vR 88), some (vI root), some (vI how), some (vI (CN (A 90) n al ro)), some (vI x), none, none], [vI 1, vI how, vI x, vR 110], LAY (u (u (u (u A 104 l104) 105 l105) 110 la) 111 lb) F, 0, 0)) hc145 5 rfl trivial ?_
        refine R_ic (t := 52) hc145 rfl rfl (fun (c4 : ¬ how = 1) => ?_) (fun (c4 : ¬ (¬ how = 1)) => ?_)
        · refine R_s (P := (0 ≤ x ∧ x < ((la).length : Int)) ∧ (0 ≤ x ∧ x < ((wr la x 0).length : Int)) ∧ True) (f' := (69, [some (vR 88), some (vI root), some (vI how), some (vI (CN (A 90) n al ro)), some (vI x), none, none], [vI (if 1 < rd (wr la x 0) x then 1 else if rd (wr la x 0) x = 1 then 0 else -1), vI x, vR 111], LAY (u (u (u (u A 104 l104) 105 l105) 111 lb) 110 (wr la x 0)) F, 0, 0)) hc145 11 rfl ⟨⟨by omega, by omega⟩, ⟨by omega, by simp only [wr_len]; omega⟩, trivial⟩ ?_
          refine R_if (t := 77) hc145 rfl rfl (fun (c5 : ¬ (if 1 < rd (wr la x 0) x then 1 else if rd (wr la x 0) x = 1 then 0 else -1) = 0) => ?_) (fun (c5 : ¬ (¬ (if 1 < rd (wr la x 0) x then 1 else if rd (wr la x 0) x = 1 then 0 else -1) = 0)) => ?_)
          · rw [lcm_eq] at c5
            refine R_s (P := (0 ≤ x ∧ x < ((lb).length : Int)) ∧ inI (x + 1) ∧ True) (f' := (9, [some (vR 88), some (vI root), some (vI how), some (vI (CN (A 90) n al ro)), some (vI (x + 1)), none, none], [], LAY (u (u (u (u A 104 l104) 105 l105) 110 (wr la x 0)) 111 (wr lb x 1)) F, 0, 0)) hc145 4 rfl ⟨⟨by omega, by omega⟩, ⟨by omega, by omega⟩, trivial⟩ ?_
            have f2 := f1 (by omega)
            have g4 := g3 (by omega)
            have f3 := rq_01 (P := A 90) (q := 0) (p := ro) i
            refine ih (i + 1) _ _ _ (by omega) (by rw [wr_len]; exact hla) (by rw [wr_len]; exact hlb) (fun p hp => ?_) (by omega) (by omega)
            rw [rd_wr (by omega) (by omega) (by omega), rd_wr (by omega) (by omega) (by omega)]
            by_cases e : (p : Int) = x
            · have e2 : p = i := by omega
              rw [if_pos e, if_pos e, e2]
              (try rw [rd_wr_s (by omega) (by omega)] at *)
              (repeat' split) <;> first | omega | (refine ⟨by omega, by omega⟩)
            · rw [if_neg e, if_neg e]
              exact hz p (by omega)
          · rw [lcm_eq] at c5
            refine R_s (P := (0 ≤ x ∧ x < ((lb).length : Int)) ∧ inI (x + 1) ∧ True) (f' := (9, [some (vR 88), some (vI root), some (vI how), some (vI (CN (A 90) n al ro)), some (vI (x + 1)), none, none], [], LAY (u (u (u (u A 104 l104) 105 l105) 110 (wr la x 0)) 111 (wr lb x (CN (A 90) n al ro))) F, 0, 0)) hc145 6 rfl ⟨⟨by omega, by omega⟩, ⟨by omega, by omega⟩, trivial⟩ ?_
            have f2 := f1 (by omega)
            have g4 := g3 (by omega)
            have f3 := rq_01 (P := A 90) (q := 0) (p := ro) i
            refine ih (i + 1) _ _ _ (by omega) (by rw [wr_len]; exact hla) (by rw [wr_len]; exact hlb) (fun p hp => ?_) (by omega) (by omega)
            rw [rd_wr (by omega) (by omega) (by omega), rd_wr (by omega) (by omega) (by omega)]
            by_cases e : (p : Int) = x
            · have e2 : p = i := by omega
              rw [if_pos e, if_pos e, e2]
              (try rw [rd_wr_s (by omega) (by omega)] at *)
              (repeat' split) <;> first | omega | (refine ⟨by omega, by omega⟩)
            · rw [if_neg e, if_neg e]
              exact hz p (by omega)
        · refine R_s (P := (0 ≤ x ∧ x < ((l104).length : Int)) ∧ True) (f' := (36, [some (vR 88), some (vI root), some (vI how), some (vI (CN (A 90) n al ro)), some (vI x), none, none], [vI (rd l104 x), vI x, vR 110], LAY (u (u (u (u A 104 l104) 105 l105) 110 la) 111 lb) F, 0, 0)) hc145 4 rfl ⟨⟨by omega, by omega⟩, trivial⟩ ?_
          refine R_if (t := 52) hc145 rfl rfl (fun (c6 : rd l104 x = 0) => ?_) (fun (c6 : ¬ (rd l104 x = 0)) => ?_)
          · refine R_s (P := (0 ≤ x ∧ x < ((la).length : Int)) ∧ (0 ≤ x ∧ x < ((wr la x 0).length : Int)) ∧ True) (f' := (69, [some (vR 88), some (vI root), some (vI how), some (vI (CN (A 90) n al ro)), some (vI x), none, none], [vI (if 1 < rd (wr la x 0) x then 1 else if rd (wr la x 0) x = 1 then 0 else -1), vI x, vR 111], LAY (u (u (u (u A 104 l104) 105 l105) 111 lb) 110 (wr la x 0)) F, 0, 0)) hc145 11 rfl ⟨⟨by omega, by omega⟩, ⟨by omega, by simp only [wr_len]; omega⟩, trivial⟩ ?_
            refine R_if (t := 77) hc145 rfl rfl (fun (c7 : ¬ (if 1 < rd (wr la x 0) x then 1 else if rd (wr la x 0) x = 1 then 0 else -1) = 0) => ?_) (fun (c7 : ¬ (¬ (if 1 < rd (wr la x 0) x then 1 else if rd (wr la x 0) x = 1 then 0 else -1) = 0)) => ?_)
            · rw [lcm_eq] at c7
              refine R_s (P := (0 ≤ x ∧ x < ((lb).length : Int)) ∧ inI (x + 1) ∧ True) (f' := (9, [some (vR 88), some (vI root), some (vI how), some (vI (CN (A 90) n al ro)), some (vI (x + 1)), none, none], [], LAY (u (u (u (u A 104 l104) 105 l105) 110 (wr la x 0)) 111 (wr lb x 1)) F, 0, 0)) hc145 4 rfl ⟨⟨by omega, by omega⟩, ⟨by omega, by omega⟩, trivial⟩ ?_
              have f2 := f1 (by omega)
              have g4 := g3 (by omega)
              have f3 := rq_01 (P := A 90) (q := 0) (p := ro) i
              refine ih (i + 1) _ _ _ (by omega) (by rw [wr_len]; exact hla) (by rw [wr_len]; exact hlb) (fun p hp => ?_) (by omega) (by omega)
              rw [rd_wr (by omega) (by omega) (by omega), rd_wr (by omega) (by omega) (by omega)]
              by_cases e : (p : Int) = x
              · have e2 : p = i := by omega
                rw [if_pos e, if_pos e, e2]
                (try rw [rd_wr_s (by omega) (by omega)] at *)
                (repeat' split) <;> first | omega | (refine ⟨by omega, by omega⟩)
              · rw [if_neg e, if_neg e]
                exact hz p (by omega)
            · rw [lcm_eq] at c7
              refine R_s (P := (0 ≤ x ∧ x < ((lb).length : Int)) ∧ inI (x + 1) ∧ True) (f' := (9, [some (vR 88), some (vI root), some (vI how), some (vI (CN (A 90) n al ro)), some (vI (x + 1)), none, none], [], LAY (u (u (u (u A 104 l104) 105 l105) 110 (wr la x 0)) 111 (wr lb x (CN (A 90) n al ro))) F, 0, 0)) hc145 6 rfl ⟨⟨by omega, by omega⟩, ⟨by omega, by omega⟩, trivial⟩ ?_
              have f2 := f1 (by omega)
              have g4 := g3 (by omega)
              have f3 := rq_01 (P := A 90) (q := 0) (p := ro) i
              refine ih (i + 1) _ _ _ (by omega) (by rw [wr_len]; exact hla) (by rw [wr_len]; exact hlb) (fun p hp => ?_) (by omega) (by omega)
              rw [rd_wr (by omega) (by omega) (by omega), rd_wr (by omega) (by omega) (by omega)]
              by_cases e : (p : Int) = x
              · have e2 : p = i := by omega
                rw [if_pos e, if_pos e, e2]
                (try rw [rd_wr_s (by omega) (by omega)] at *)
                (repeat' split) <;> first | omega | (refine ⟨by omega, by omega⟩)
              · rw [if_neg e, if_neg e]
                exact hz p (by omega)
          · refine R_s (P := True) (f' := (42, [some (vR 88), some (vI root), some (vI how), some (vI (CN (A 90) n al ro)), some (vI x), none, none], [vI x, vR 88, vI x, vR 110], LAY (u (u (u (u A 104 l104) 105 l105) 110 la) 111 lb) F, 0, 0)) hc145 2 rfl trivial ?_
            refine R_cv hc145 rfl rfl (l_lives (A := (u (u (u (u A 104 l104) 105 l105) 110 la) 111 lb)) (F := F) hn hn30 h91 h92 h93 h94 hU hTk hal (k := i) ex (by omega)) (fun r G9 hp9 => ?_)
            obtain ⟨rfl, rfl⟩ := hp9
            refine R_s (f' := (45, [some (vR 88), some (vI root), some (vI how), some (vI (CN (A 90) n al ro)), some (vI x), none, none], [vI (al i), vI x, vR 110], LAY (u (u (u (u A 104 l104) 105 l105) 110 la) 111 lb) F, 0, 0)) hc145 0 rfl trivial ?_
            refine R_if (t := 52) hc145 rfl rfl (fun (c8 : al i = 0) => ?_) (fun (c8 : ¬ (al i = 0)) => ?_)
            · refine R_s (P := (0 ≤ x ∧ x < ((la).length : Int)) ∧ (0 ≤ x ∧ x < ((wr la x 0).length : Int)) ∧ True) (f' := (69, [some (vR 88), some (vI root), some (vI how), some (vI (CN (A 90) n al ro)), some (vI x), none, none], [vI (if 1 < rd (wr la x 0) x then 1 else if rd (wr la x 0) x = 1 then 0 else -1), vI x, vR 111], LAY (u (u (u (u A 104 l104) 105 l105) 111 lb) 110 (wr la x 0)) F, 0, 0)) hc145 11 rfl ⟨⟨by omega, by omega⟩, ⟨by omega, by simp only [wr_len]; omega⟩, trivial⟩ ?_
              refine R_if (t := 77) hc145 rfl rfl (fun (c9 : ¬ (if 1 < rd (wr la x 0) x then 1 else if rd (wr la x 0) x = 1 then 0 else -1) = 0) => ?_) (fun (c9 : ¬ (¬ (if 1 < rd (wr la x 0) x then 1 else if rd (wr la x 0) x = 1 then 0 else -1) = 0)) => ?_)
              · rw [lcm_eq] at c9
                refine R_s (P := (0 ≤ x ∧ x < ((lb).length : Int)) ∧ inI (x + 1) ∧ True) (f' := (9, [some (vR 88), some (vI root), some (vI how), some (vI (CN (A 90) n al ro)), some (vI (x + 1)), none, none], [], LAY (u (u (u (u A 104 l104) 105 l105) 110 (wr la x 0)) 111 (wr lb x 1)) F, 0, 0)) hc145 4 rfl ⟨⟨by omega, by omega⟩, ⟨by omega, by omega⟩, trivial⟩ ?_
                have f2 := f1 (by omega)
                have g4 := g3 (by omega)
                have f3 := rq_01 (P := A 90) (q := 0) (p := ro) i
                refine ih (i + 1) _ _ _ (by omega) (by rw [wr_len]; exact hla) (by rw [wr_len]; exact hlb) (fun p hp => ?_) (by omega) (by omega)
                rw [rd_wr (by omega) (by omega) (by omega), rd_wr (by omega) (by omega) (by omega)]
                by_cases e : (p : Int) = x
                · have e2 : p = i := by omega
                  rw [if_pos e, if_pos e, e2]
                  (try rw [rd_wr_s (by omega) (by omega)] at *)
                  (repeat' split) <;> first | omega | (refine ⟨by omega, by omega⟩)
                · rw [if_neg e, if_neg e]
                  exact hz p (by omega)
              · rw [lcm_eq] at c9
                refine R_s (P := (0 ≤ x ∧ x < ((lb).length : Int)) ∧ inI (x + 1) ∧ True) (f' := (9, [some (vR 88), some (vI root), some (vI how), some (vI (CN (A 90) n al ro)), some (vI (x + 1)), none, none], [], LAY (u (u (u (u A 104 l104) 105 l105) 110 (wr la x 0)) 111 (wr lb x (CN (A 90) n al ro))) F, 0, 0)) hc145 6 rfl ⟨⟨by omega, by omega⟩, ⟨by omega, by omega⟩, trivial⟩ ?_
                have f2 := f1 (by omega)
                have g4 := g3 (by omega)
                have f3 := rq_01 (P := A 90) (q := 0) (p := ro) i
                refine ih (i + 1) _ _ _ (by omega) (by rw [wr_len]; exact hla) (by rw [wr_len]; exact hlb) (fun p hp => ?_) (by omega) (by omega)
                rw [rd_wr (by omega) (by omega) (by omega), rd_wr (by omega) (by omega) (by omega)]
                by_cases e : (p : Int) = x
                · have e2 : p = i := by omega
                  rw [if_pos e, if_pos e, e2]
                  (try rw [rd_wr_s (by omega) (by omega)] at *)
                  (repeat' split) <;> first | omega | (refine ⟨by omega, by omega⟩)
                · rw [if_neg e, if_neg e]
                  exact hz p (by omega)
            · refine R_s (P := (0 ≤ x ∧ x < ((la).length : Int)) ∧ (0 ≤ x ∧ x < ((wr la x 1).length : Int)) ∧ True) (f' := (69, [some (vR 88), some (vI root), some (vI how), some (vI (CN (A 90) n al ro)), some (vI x), none, none], [vI (if 1 < rd (wr la x 1) x then 1 else if rd (wr la x 1) x = 1 then 0 else -1), vI x, vR 111], LAY (u (u (u (u A 104 l104) 105 l105) 111 lb) 110 (wr la x 1)) F, 0, 0)) hc145 12 rfl ⟨⟨by omega, by omega⟩, ⟨by omega, by simp only [wr_len]; omega⟩, trivial⟩ ?_
              refine R_if (t := 77) hc145 rfl rfl (fun (c10 : ¬ (if 1 < rd (wr la x 1) x then 1 else if rd (wr la x 1) x = 1 then 0 else -1) = 0) => ?_) (fun (c10 : ¬ (¬ (if 1 < rd (wr la x 1) x then 1 else if rd (wr la x 1) x = 1 then 0 else -1) = 0)) => ?_)
              · rw [lcm_eq] at c10
                refine R_s (P := (0 ≤ x ∧ x < ((lb).length : Int)) ∧ inI (x + 1) ∧ True) (f' := (9, [some (vR 88), some (vI root), some (vI how), some (vI (CN (A 90) n al ro)), some (vI (x + 1)), none, none], [], LAY (u (u (u (u A 104 l104) 105 l105) 110 (wr la x 1)) 111 (wr lb x 1)) F, 0, 0)) hc145 4 rfl ⟨⟨by omega, by omega⟩, ⟨by omega, by omega⟩, trivial⟩ ?_
                have f2 := f1 (by omega)
                have g4 := g3 (by omega)
                have f3 := rq_01 (P := A 90) (q := 0) (p := ro) i
                refine ih (i + 1) _ _ _ (by omega) (by rw [wr_len]; exact hla) (by rw [wr_len]; exact hlb) (fun p hp => ?_) (by omega) (by omega)
                rw [rd_wr (by omega) (by omega) (by omega), rd_wr (by omega) (by omega) (by omega)]
                by_cases e : (p : Int) = x
                · have e2 : p = i := by omega
                  rw [if_pos e, if_pos e, e2]
                  (try rw [rd_wr_s (by omega) (by omega)] at *)
                  (repeat' split) <;> first | omega | (refine ⟨by omega, by omega⟩)
                · rw [if_neg e, if_neg e]
                  exact hz p (by omega)
              · rw [lcm_eq] at c10
                refine R_s (P := (0 ≤ x ∧ x < ((lb).length : Int)) ∧ inI (x + 1) ∧ True) (f' := (9, [some (vR 88), some (vI root), some (vI how), some (vI (CN (A 90) n al ro)), some (vI (x + 1)), none, none], [], LAY (u (u (u (u A 104 l104) 105 l105) 110 (wr la x 1)) 111 (wr lb x (CN (A 90) n al ro))) F, 0, 0)) hc145 6 rfl ⟨⟨by omega, by omega⟩, ⟨by omega, by omega⟩, trivial⟩ ?_
                have f2 := f1 (by omega)
                have g4 := g3 (by omega)
                have f3 := rq_01 (P := A 90) (q := 0) (p := ro) i
                refine ih (i + 1) _ _ _ (by omega) (by rw [wr_len]; exact hla) (by rw [wr_len]; exact hlb) (fun p hp => ?_) (by omega) (by omega)
                rw [rd_wr (by omega) (by omega) (by omega), rd_wr (by omega) (by omega) (by omega)]
                by_cases e : (p : Int) = x
                · have e2 : p = i := by omega
                  rw [if_pos e, if_pos e, e2]
                  (try rw [rd_wr_s (by omega) (by omega)] at *)
                  (repeat' split) <;> first | omega | (refine ⟨by omega, by omega⟩)
                · rw [if_neg e, if_neg e]
                  exact hz p (by omega)
  refine R_s (P := True) (f' := (9, [some (vR 88), some (vI root), some (vI how), some (vI (CN (A 90) n al ro)), some (vI 0), none, none], [], LAY (u (u (u (u A 104 l104) 105 l105) 110 (A 110)) 111 (A 111)) F, 0, 0)) hc145 0 rfl trivial ?_
  exact lpA (n + 1) 0 _ _ _ rfl h110 h111 (fun p hp => absurd hp (by omega)) (by omega) (by omega)

