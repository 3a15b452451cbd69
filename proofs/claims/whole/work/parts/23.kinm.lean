theorem l_lives {A : Nat → List Int} {F : Nat → Int} {n : Nat} (hn : (n : Int) = F 19) (hn30 : n ≤ 30) (h91 : (A 91).length = 30) (h92 : (A 92).length = 30) (h93 : (A 93).length = 30) (h94 : (A 94).length = 30) (hU : ∀ p : Nat, p < n → rd (A 93) p = 0 ∨ rd (A 93) p = 1) (hTk : ∀ p : Nat, p < n → rd (A 94) p = 0 ∨ rd (A 94) p = 1) {al : Nat → Int} (hal : ∀ p : Nat, p < n → al p = LV (F 18) (A 91) (A 93) (A 92) (fun p => rd (A 94) p) p) {p : Int} {k : Nat} (hp : p = k) (hk : k < n) : R 114 (0, L0 114 [vR 88, vI p], [], LAY A F, 0, 0) (fun r G => r = some (vI (al k)) ∧ G = LAY A F) := by
  have g1 := hal k hk
  have g2 := hU k hk
  have g3 := hTk k hk
  subst hp
  unfold LV at g1
  (try dsimp only at g1)
  refine R_s (P := (0 ≤ (k : Int) ∧ (k : Int) < ((A 91).length : Int)) ∧ True) (f' := (10, [some (vR 88), some (vI (k : Int))], [vI (F 18), vI (rd (A 91) (k : Int))], LAY A F, 0, 0)) hc114 6 rfl ⟨⟨by omega, by omega⟩, trivial⟩ ?_
  refine R_ic (t := 61) hc114 rfl rfl (fun (c1 : F 18 < rd (A 91) (k : Int)) => ?_) (fun (c1 : ¬ (F 18 < rd (A 91) (k : Int))) => ?_)
  · refine R_s (P := True) (f' := (62, [some (vR 88), some (vI (k : Int))], [vI 0], LAY A F, 0, 0)) hc114 1 rfl trivial ?_
    exact R_retz hc114 rfl rfl (Or.inl rfl) ⟨by rw [show al k = 0 by (revert g1; (repeat' split) <;> omega)], rfl⟩
  · refine R_s (P := (0 ≤ (k : Int) ∧ (k : Int) < ((A 93).length : Int)) ∧ True) (f' := (19, [some (vR 88), some (vI (k : Int))], [vI (rd (A 93) (k : Int))], LAY A F, 0, 0)) hc114 4 rfl ⟨⟨by omega, by omega⟩, trivial⟩ ?_
    refine R_if (t := 34) hc114 rfl rfl (fun (c2 : rd (A 93) (k : Int) = 0) => ?_) (fun (c2 : ¬ (rd (A 93) (k : Int) = 0)) => ?_)
    · refine R_s (P := (0 ≤ (k : Int) ∧ (k : Int) < ((A 92).length : Int)) ∧ True) (f' := (41, [some (vR 88), some (vI (k : Int))], [vI (-1), vI (rd (A 92) (k : Int))], LAY A F, 0, 0)) hc114 5 rfl ⟨⟨by omega, by omega⟩, trivial⟩ ?_
      refine R_ic (t := 57) hc114 rfl rfl (fun (c3 : rd (A 92) (k : Int) = (-1)) => ?_) (fun (c3 : ¬ (rd (A 92) (k : Int) = (-1))) => ?_)
      · refine R_s (P := True) (f' := (62, [some (vR 88), some (vI (k : Int))], [vI 1], LAY A F, 0, 0)) hc114 2 rfl trivial ?_
        exact R_retz hc114 rfl rfl (Or.inr rfl) ⟨by rw [show al k = 1 by (revert g1; (repeat' split) <;> omega)], rfl⟩
      · refine R_s (P := (0 ≤ (k : Int) ∧ (k : Int) < ((A 92).length : Int)) ∧ True) (f' := (54, [some (vR 88), some (vI (k : Int))], [vI (rd (A 92) (k : Int)), vI (F 18)], LAY A F, 0, 0)) hc114 6 rfl ⟨⟨by omega, by omega⟩, trivial⟩ ?_
        refine R_ic (t := 61) hc114 rfl rfl (fun (c4 : rd (A 92) (k : Int) ≤ F 18) => ?_) (fun (c4 : ¬ (rd (A 92) (k : Int) ≤ F 18)) => ?_)
        · refine R_s (P := True) (f' := (62, [some (vR 88), some (vI (k : Int))], [vI 0], LAY A F, 0, 0)) hc114 1 rfl trivial ?_
          exact R_retz hc114 rfl rfl (Or.inl rfl) ⟨by rw [show al k = 0 by (revert g1; (repeat' split) <;> omega)], rfl⟩
        · refine R_s (P := True) (f' := (62, [some (vR 88), some (vI (k : Int))], [vI 1], LAY A F, 0, 0)) hc114 2 rfl trivial ?_
          exact R_retz hc114 rfl rfl (Or.inr rfl) ⟨by rw [show al k = 1 by (revert g1; (repeat' split) <;> omega)], rfl⟩
    · refine R_s (P := (0 ≤ (k : Int) ∧ (k : Int) < ((A 94).length : Int)) ∧ True) (f' := (28, [some (vR 88), some (vI (k : Int))], [vI (rd (A 94) (k : Int))], LAY A F, 0, 0)) hc114 4 rfl ⟨⟨by omega, by omega⟩, trivial⟩ ?_
      refine R_if (t := 61) hc114 rfl rfl (fun (c5 : rd (A 94) (k : Int) = 0) => ?_) (fun (c5 : ¬ (rd (A 94) (k : Int) = 0)) => ?_)
      · refine R_s (P := True) (f' := (62, [some (vR 88), some (vI (k : Int))], [vI 0], LAY A F, 0, 0)) hc114 1 rfl trivial ?_
        exact R_retz hc114 rfl rfl (Or.inl rfl) ⟨by rw [show al k = 0 by (revert g1; (repeat' split) <;> omega)], rfl⟩
      · refine R_s (P := True) (f' := (62, [some (vR 88), some (vI (k : Int))], [vI 1], LAY A F, 0, 0)) hc114 3 rfl trivial ?_
        exact R_retz hc114 rfl rfl (Or.inr rfl) ⟨by rw [show al k = 1 by (revert g1; (repeat' split) <;> omega)], rfl⟩

theorem l_findLine {A : Nat → List Int} {F : Nat → Int} {n : Nat} (hn : (n : Int) = F 19) (hn30 : n ≤ 30) (h91 : (A 91).length = 30) (h92 : (A 92).length = 30) (h93 : (A 93).length = 30) (h94 : (A 94).length = 30) (hU : ∀ p : Nat, p < n → rd (A 93) p = 0 ∨ rd (A 93) p = 1) (hTk : ∀ p : Nat, p < n → rd (A 94) p = 0 ∨ rd (A 94) p = 1) {al : Nat → Int} (hal : ∀ p : Nat, p < n → al p = LV (F 18) (A 91) (A 93) (A 92) (fun p => rd (A 94) p) p) (hT : TR (A 90) n) (h90 : (A 90).length = 30) {root : Int} {ro : Nat} (hro : root = ro) (hr : ro < n) (h104 : (A 104).length = 30) (h105 : (A 105).length = 30) : R 115 (0, L0 115 [vR 88, vI root], [], LAY A F, 0, 0) (fun r G => r = none ∧ ∃ l104 l105, G = LAY (u (u A 104 l104) 105 l105) F ∧ l104.length = 30 ∧ l105.length = 30 ∧ ∀ p : Nat, p < n → rd l104 p = rq (A 90) 0 ro p ∧ (rd l105 p = 0 ∨ rd l105 p = 1) ∧ (rd l105 p = 1 ↔ 0 < CN (A 90) n al p)) := by
  have ha : ∀ p : Nat, p < n → al p = 0 ∨ al p = 1 := fun p hp => by
    rw [hal p hp]
    exact LV_01 (hTk p hp)
  have lp2 : ∀ (m i : Nat) (x : Int) (l104 : List Int) (l105 : List Int), x = (n : Int) - i - 1 → l104.length = 30 → l105.length = 30 → (∀ p : Nat, p < n → rd l104 p = rq (A 90) 0 ro p) → (∀ p : Nat, p < n → (rd l105 p = 0 ∨ rd l105 p = 1) ∧ (rd l105 p = 1 ↔ 0 < VV (A 90) n al (n - i) p)) → i ≤ n → n + 1 ≤ i + m → R 115 (79, [some (vR 88), some (vI root), some (vI x)], [], LAY (u (u A 104 l104) 105 l105) F, 0, 0) (fun r G => r = none ∧ ∃ l104 l105, G = LAY (u (u A 104 l104) 105 l105) F ∧ l104.length = 30 ∧ l105.length = 30 ∧ ∀ p : Nat, p < n → rd l104 p = rq (A 90) 0 ro p ∧ (rd l105 p = 0 ∨ rd l105 p = 1) ∧ (rd l105 p = 1 ↔ 0 < CN (A 90) n al p)) := by
    intro m
    induction m with
    | zero =>
      intro i x l104 l105 ex hl4 hl5 hq hz hi hm
      exact absurd hm (by omega)
    | succ m ih =>
      intro i x l104 l105 ex hl4 hl5 hq hz hi hm
      have hTx : 0 ≤ x → -1 ≤ rd (A 90) x ∧ rd (A 90) x < x := fun q => by
        have := hT x.toNat (by omega)
        rw [show ((x.toNat : Nat) : Int) = x by omega] at this
        exact this
      refine R_s (P := True) (f' := (80, [some (vR 88), some (vI root), some (vI x)], [vI x], LAY (u (u A 104 l104) 105 l105) F, 0, 0)) hc115 1 rfl trivial ?_
      refine R_if (t := 120) hc115 rfl rfl (fun (c1 : x ≤ 0) => ?_) (fun (c1 : ¬ (x ≤ 0)) => ?_)
      · refine R_retv hc115 rfl rfl ⟨rfl, l104, l105, rfl, hl4, hl5, fun p hp => ⟨hq p hp, (hz p hp).1, ?_⟩⟩
        have z := (hz p hp).2
        have e1 : CN (A 90) n al p = VV (A 90) n al (n - i) p := by
          obtain e | e : n - i = 0 ∨ n - i = 1 := by omega
          · rw [e]; rfl
          · rw [e]
            have v := VV_step al hT (t := 0) (by omega) p
            have hT0 := hT 0 (by omega)
            rw [if_neg (by omega), Int.add_zero] at v
            exact v
        rw [e1]
        exact z
      · refine R_s (P := (0 ≤ x ∧ x < ((l105).length : Int)) ∧ True) (f' := (89, [some (vR 88), some (vI root), some (vI x)], [vI (rd l105 x)], LAY (u (u A 104 l104) 105 l105) F, 0, 0)) hc115 4 rfl ⟨⟨by omega, by omega⟩, trivial⟩ ?_
        refine R_if (t := 114) hc115 rfl rfl (fun (c2 : rd l105 x = 0) => ?_) (fun (c2 : ¬ (rd l105 x = 0)) => ?_)
        · refine R_s (P := inI (x + (-1)) ∧ True) (f' := (79, [some (vR 88), some (vI root), some (vI (x + (-1)))], [], LAY (u (u A 104 l104) 105 l105) F, 0, 0)) hc115 2 rfl ⟨⟨by omega, by omega⟩, trivial⟩ ?_
          obtain ⟨t, ht, hx⟩ : ∃ t : Nat, n - i = t + 1 ∧ x = (t : Int) := ⟨n - i - 1, by omega, by omega⟩
          have e1 : n - (i + 1) = t := by omega
          have hTt := hT t (by omega)
          refine ih (i + 1) _ _ _ (by omega) hl4 hl5 hq (fun p hp => ?_) (by omega) (by omega)
          rw [e1]
          have v := VV_step al hT (t := t) (by omega) p
          have z := hz p hp
          have zt := hz t (by omega)
          rw [ht] at z zt
          have cb := VV_bd (P := A 90) (q := t + 1) ha t
          have cb2 := VV_bd (P := A 90) (q := t + 1) ha p
          subst hx
          by_cases e : (p : Int) = rd (A 90) t
          · rw [if_pos e.symm] at v
            have z3 : ¬ 0 < VV (A 90) n al (t + 1) t := fun q => by have := zt.2.mpr q; omega
            rw [v, show VV (A 90) n al (t + 1) t = 0 by omega, Int.add_zero]
            exact z
          · rw [if_neg (fun q => e q.symm)] at v
            rw [v, Int.add_zero]
            exact z
        · refine R_s (P := (0 ≤ x ∧ x < ((A 90).length : Int)) ∧ True) (f' := (99, [some (vR 88), some (vI root), some (vI x)], [vI (-1), vI (rd (A 90) x)], LAY (u (u A 104 l104) 105 l105) F, 0, 0)) hc115 5 rfl ⟨⟨by omega, by omega⟩, trivial⟩ ?_
          refine R_ic (t := 114) hc115 rfl rfl (fun (c3 : rd (A 90) x = (-1)) => ?_) (fun (c3 : ¬ (rd (A 90) x = (-1))) => ?_)
          · refine R_s (P := inI (x + (-1)) ∧ True) (f' := (79, [some (vR 88), some (vI root), some (vI (x + (-1)))], [], LAY (u (u A 104 l104) 105 l105) F, 0, 0)) hc115 2 rfl ⟨⟨by omega, by omega⟩, trivial⟩ ?_
            obtain ⟨t, ht, hx⟩ : ∃ t : Nat, n - i = t + 1 ∧ x = (t : Int) := ⟨n - i - 1, by omega, by omega⟩
            have e1 : n - (i + 1) = t := by omega
            have hTt := hT t (by omega)
            refine ih (i + 1) _ _ _ (by omega) hl4 hl5 hq (fun p hp => ?_) (by omega) (by omega)
            rw [e1]
            have v := VV_step al hT (t := t) (by omega) p
            have z := hz p hp
            have zt := hz t (by omega)
            rw [ht] at z zt
            have cb := VV_bd (P := A 90) (q := t + 1) ha t
            have cb2 := VV_bd (P := A 90) (q := t + 1) ha p
            subst hx
            by_cases e : (p : Int) = rd (A 90) t
            · rw [if_pos e.symm] at v
              have z3 : ¬ 0 < VV (A 90) n al (t + 1) t := fun q => by have := zt.2.mpr q; omega
              rw [v, show VV (A 90) n al (t + 1) t = 0 by omega, Int.add_zero]
              exact z
            · rw [if_neg (fun q => e q.symm)] at v
              rw [v, Int.add_zero]
              exact z
          · refine R_s (P := (0 ≤ x ∧ x < ((A 90).length : Int)) ∧ ((0 ≤ rd (A 90) x ∧ rd (A 90) x < ((l105).length : Int)) ∧ (1 = 0 ∨ 1 = 1)) ∧ inI (x + (-1)) ∧ True) (f' := (79, [some (vR 88), some (vI root), some (vI (x + (-1)))], [], LAY (u (u A 104 l104) 105 (wr l105 (rd (A 90) x) 1)) F, 0, 0)) hc115 10 rfl ⟨⟨by omega, by omega⟩, ⟨⟨by omega, by omega⟩, by omega⟩, ⟨by omega, by omega⟩, trivial⟩ ?_
            obtain ⟨t, ht, hx⟩ : ∃ t : Nat, n - i = t + 1 ∧ x = (t : Int) := ⟨n - i - 1, by omega, by omega⟩
            have e1 : n - (i + 1) = t := by omega
            have hTt := hT t (by omega)
            refine ih (i + 1) _ _ _ (by omega) hl4 (by rw [wr_len]; exact hl5) hq (fun p hp => ?_) (by omega) (by omega)
            rw [e1]
            have v := VV_step al hT (t := t) (by omega) p
            have z := hz p hp
            have zt := hz t (by omega)
            rw [ht] at z zt
            have cb := VV_bd (P := A 90) (q := t + 1) ha t
            have cb2 := VV_bd (P := A 90) (q := t + 1) ha p
            subst hx
            rw [rd_wr (by omega) (by omega) (by omega)]
            by_cases e : (p : Int) = rd (A 90) t
            · rw [if_pos e]
              rw [if_pos e.symm] at v
              have z3 := zt.2.mp (by omega)
              exact ⟨.inr rfl, fun _ => by omega, fun _ => rfl⟩
            · rw [if_neg e]
              rw [if_neg (fun q => e q.symm)] at v
              rw [v, Int.add_zero]
              exact z
  have lp1 : ∀ (m i : Nat) (x : Int) (l104 : List Int) (l105 : List Int), x = (i : Int) → l104.length = 30 → l105.length = 30 → (∀ p : Nat, p < i → rd l104 p = rq (A 90) 0 ro p ∧ rd l105 p = al p) → i ≤ n → n + 1 ≤ i + m → R 115 (2, [some (vR 88), some (vI root), some (vI x)], [], LAY (u (u A 104 l104) 105 l105) F, 0, 0) (fun r G => r = none ∧ ∃ l104 l105, G = LAY (u (u A 104 l104) 105 l105) F ∧ l104.length = 30 ∧ l105.length = 30 ∧ ∀ p : Nat, p < n → rd l104 p = rq (A 90) 0 ro p ∧ (rd l105 p = 0 ∨ rd l105 p = 1) ∧ (rd l105 p = 1 ↔ 0 < CN (A 90) n al p)) := by
    intro m
    induction m with
    | zero =>
      intro i x l104 l105 ex hl4 hl5 hz hi hm
      exact absurd hm (by omega)
    | succ m ih =>
      intro i x l104 l105 ex hl4 hl5 hz hi hm
      have hTi := hT i
      have hor := of_eq (p := ro) (k := i) hT
      have hzp := hz (rd (A 90) x).toNat
      have hqp := rq_01 (P := A 90) (q := 0) (p := ro) (rd (A 90) x).toNat
      have gai := ha i
      rw [← ex] at hTi hor
      have hzq : 0 ≤ rd (A 90) x → rd (A 90) x < x → rd l104 (rd (A 90) x) = rq (A 90) 0 ro (rd (A 90) x).toNat := fun q1 q2 => by
        have := (hzp (by omega)).1
        rw [show (((rd (A 90) x).toNat : Nat) : Int) = rd (A 90) x by omega] at this
        exact this
      refine R_s (P := True) (f' := (7, [some (vR 88), some (vI root), some (vI x)], [vI (F 19), vI x], LAY (u (u A 104 l104) 105 l105) F, 0, 0)) hc115 3 rfl trivial ?_
      refine R_ic (t := 72) hc115 rfl rfl (fun (c1 : F 19 ≤ x) => ?_) (fun (c1 : ¬ (F 19 ≤ x)) => ?_)
      · refine R_s (P := inI ((F 19) - 1) ∧ True) (f' := (79, [some (vR 88), some (vI root), some (vI ((F 19) - 1))], [], LAY (u (u A 104 l104) 105 l105) F, 0, 0)) hc115 5 rfl ⟨⟨by omega, by omega⟩, trivial⟩ ?_
        refine lp2 (n + 1) 0 _ _ _ (by omega) hl4 hl5 (fun p hp => (hz p (by omega)).1) (fun p hp => ?_) (by omega) (by omega)
        rw [Nat.sub_zero, VV_n al hp, (hz p (by omega)).2]
        have := ha p hp
        exact ⟨this, by omega, by omega⟩
      · refine R_s (P := True) (f' := (17, [some (vR 88), some (vI root), some (vI x)], [vI root, vI x, vI x, vR 104], LAY (u (u A 104 l104) 105 l105) F, 0, 0)) hc115 5 rfl trivial ?_
        refine R_ic (t := 49) hc115 rfl rfl (fun (c2 : x = root) => ?_) (fun (c2 : ¬ (x = root)) => ?_)
        · refine R_s (P := ((0 ≤ x ∧ x < ((l104).length : Int)) ∧ (1 = 0 ∨ 1 = 1)) ∧ True) (f' := (62, [some (vR 88), some (vI root), some (vI x)], [vI x, vR 88, vI x, vR 105], LAY (u (u A 105 l105) 104 (wr l104 x 1)) F, 0, 0)) hc115 8 rfl ⟨⟨⟨by omega, by omega⟩, by omega⟩, trivial⟩ ?_
          refine R_cv hc115 rfl rfl (l_lives (A := (u (u A 105 l105) 104 (wr l104 x 1))) (F := F) hn hn30 h91 h92 h93 h94 hU hTk hal (k := i) ex (by omega)) (fun r G9 hp9 => ?_)
          obtain ⟨rfl, rfl⟩ := hp9
          refine R_s (f' := (65, [some (vR 88), some (vI root), some (vI x)], [vI (al i), vI x, vR 105], LAY (u (u A 105 l105) 104 (wr l104 x 1)) F, 0, 0)) hc115 0 rfl trivial ?_
          refine R_s (P := ((0 ≤ x ∧ x < ((l105).length : Int)) ∧ (al i = 0 ∨ al i = 1)) ∧ inI (x + 1) ∧ True) (f' := (2, [some (vR 88), some (vI root), some (vI (x + 1))], [], LAY (u (u A 104 (wr l104 x 1)) 105 (wr l105 x (al i))) F, 0, 0)) hc115 3 rfl ⟨⟨⟨by omega, by omega⟩, by omega⟩, ⟨by omega, by omega⟩, trivial⟩ ?_
          refine ih (i + 1) _ _ _ (by omega) (by rw [wr_len]; exact hl4) (by rw [wr_len]; exact hl5) (fun p hp => ?_) (by omega) (by omega)
          rw [rd_wr (by omega) (by omega) (by omega), rd_wr (by omega) (by omega) (by omega)]
          by_cases e : (p : Int) = x
          · rw [if_pos e, if_pos e]
            have e2 : p = i := by omega
            subst e2
            refine ⟨?_, rfl⟩
            have hor2 := hor (by omega)
            revert hor2
            (repeat' split) <;> omega
          · rw [if_neg e, if_neg e]
            exact hz p (by omega)
        · refine R_s (P := True) (f' := (22, [some (vR 88), some (vI root), some (vI x)], [vI root, vI x, vI x, vR 104], LAY (u (u A 104 l104) 105 l105) F, 0, 0)) hc115 2 rfl trivial ?_
          refine R_ic (t := 53) hc115 rfl rfl (fun (c3 : x ≤ root) => ?_) (fun (c3 : ¬ (x ≤ root)) => ?_)
          · refine R_s (P := ((0 ≤ x ∧ x < ((l104).length : Int)) ∧ (0 = 0 ∨ 0 = 1)) ∧ True) (f' := (62, [some (vR 88), some (vI root), some (vI x)], [vI x, vR 88, vI x, vR 105], LAY (u (u A 105 l105) 104 (wr l104 x 0)) F, 0, 0)) hc115 7 rfl ⟨⟨⟨by omega, by omega⟩, by omega⟩, trivial⟩ ?_
            refine R_cv hc115 rfl rfl (l_lives (A := (u (u A 105 l105) 104 (wr l104 x 0))) (F := F) hn hn30 h91 h92 h93 h94 hU hTk hal (k := i) ex (by omega)) (fun r G9 hp9 => ?_)
            obtain ⟨rfl, rfl⟩ := hp9
            refine R_s (f' := (65, [some (vR 88), some (vI root), some (vI x)], [vI (al i), vI x, vR 105], LAY (u (u A 105 l105) 104 (wr l104 x 0)) F, 0, 0)) hc115 0 rfl trivial ?_
            refine R_s (P := ((0 ≤ x ∧ x < ((l105).length : Int)) ∧ (al i = 0 ∨ al i = 1)) ∧ inI (x + 1) ∧ True) (f' := (2, [some (vR 88), some (vI root), some (vI (x + 1))], [], LAY (u (u A 104 (wr l104 x 0)) 105 (wr l105 x (al i))) F, 0, 0)) hc115 3 rfl ⟨⟨⟨by omega, by omega⟩, by omega⟩, ⟨by omega, by omega⟩, trivial⟩ ?_
            refine ih (i + 1) _ _ _ (by omega) (by rw [wr_len]; exact hl4) (by rw [wr_len]; exact hl5) (fun p hp => ?_) (by omega) (by omega)
            rw [rd_wr (by omega) (by omega) (by omega), rd_wr (by omega) (by omega) (by omega)]
            by_cases e : (p : Int) = x
            · rw [if_pos e, if_pos e]
              have e2 : p = i := by omega
              subst e2
              refine ⟨?_, rfl⟩
              have hor2 := hor (by omega)
              revert hor2
              (repeat' split) <;> omega
            · rw [if_neg e, if_neg e]
              exact hz p (by omega)
          · refine R_s (P := (0 ≤ x ∧ x < ((A 90).length : Int)) ∧ True) (f' := (32, [some (vR 88), some (vI root), some (vI x)], [vI (-1), vI (rd (A 90) x), vI x, vR 104], LAY (u (u A 104 l104) 105 l105) F, 0, 0)) hc115 5 rfl ⟨⟨by omega, by omega⟩, trivial⟩ ?_
            refine R_ic (t := 53) hc115 rfl rfl (fun (c4 : rd (A 90) x = (-1)) => ?_) (fun (c4 : ¬ (rd (A 90) x = (-1))) => ?_)
            · refine R_s (P := ((0 ≤ x ∧ x < ((l104).length : Int)) ∧ (0 = 0 ∨ 0 = 1)) ∧ True) (f' := (62, [some (vR 88), some (vI root), some (vI x)], [vI x, vR 88, vI x, vR 105], LAY (u (u A 105 l105) 104 (wr l104 x 0)) F, 0, 0)) hc115 7 rfl ⟨⟨⟨by omega, by omega⟩, by omega⟩, trivial⟩ ?_
              refine R_cv hc115 rfl rfl (l_lives (A := (u (u A 105 l105) 104 (wr l104 x 0))) (F := F) hn hn30 h91 h92 h93 h94 hU hTk hal (k := i) ex (by omega)) (fun r G9 hp9 => ?_)
              obtain ⟨rfl, rfl⟩ := hp9
              refine R_s (f' := (65, [some (vR 88), some (vI root), some (vI x)], [vI (al i), vI x, vR 105], LAY (u (u A 105 l105) 104 (wr l104 x 0)) F, 0, 0)) hc115 0 rfl trivial ?_
              refine R_s (P := ((0 ≤ x ∧ x < ((l105).length : Int)) ∧ (al i = 0 ∨ al i = 1)) ∧ inI (x + 1) ∧ True) (f' := (2, [some (vR 88), some (vI root), some (vI (x + 1))], [], LAY (u (u A 104 (wr l104 x 0)) 105 (wr l105 x (al i))) F, 0, 0)) hc115 3 rfl ⟨⟨⟨by omega, by omega⟩, by omega⟩, ⟨by omega, by omega⟩, trivial⟩ ?_
              refine ih (i + 1) _ _ _ (by omega) (by rw [wr_len]; exact hl4) (by rw [wr_len]; exact hl5) (fun p hp => ?_) (by omega) (by omega)
              rw [rd_wr (by omega) (by omega) (by omega), rd_wr (by omega) (by omega) (by omega)]
              by_cases e : (p : Int) = x
              · rw [if_pos e, if_pos e]
                have e2 : p = i := by omega
                subst e2
                refine ⟨?_, rfl⟩
                have hor2 := hor (by omega)
                revert hor2
                (repeat' split) <;> omega
              · rw [if_neg e, if_neg e]
                exact hz p (by omega)
            · refine R_s (P := (0 ≤ x ∧ x < ((A 90).length : Int)) ∧ (0 ≤ rd (A 90) x ∧ rd (A 90) x < ((l104).length : Int)) ∧ True) (f' := (46, [some (vR 88), some (vI root), some (vI x)], [vI (rd l104 (rd (A 90) x)), vI x, vR 104], LAY (u (u A 104 l104) 105 l105) F, 0, 0)) hc115 7 rfl ⟨⟨by omega, by omega⟩, ⟨by omega, by omega⟩, trivial⟩ ?_
              refine R_if (t := 53) hc115 rfl rfl (fun (c5 : rd l104 (rd (A 90) x) = 0) => ?_) (fun (c5 : ¬ (rd l104 (rd (A 90) x) = 0)) => ?_)
              · refine R_s (P := ((0 ≤ x ∧ x < ((l104).length : Int)) ∧ (0 = 0 ∨ 0 = 1)) ∧ True) (f' := (62, [some (vR 88), some (vI root), some (vI x)], [vI x, vR 88, vI x, vR 105], LAY (u (u A 105 l105) 104 (wr l104 x 0)) F, 0, 0)) hc115 7 rfl ⟨⟨⟨by omega, by omega⟩, by omega⟩, trivial⟩ ?_
                refine R_cv hc115 rfl rfl (l_lives (A := (u (u A 105 l105) 104 (wr l104 x 0))) (F := F) hn hn30 h91 h92 h93 h94 hU hTk hal (k := i) ex (by omega)) (fun r G9 hp9 => ?_)
                obtain ⟨rfl, rfl⟩ := hp9
                refine R_s (f' := (65, [some (vR 88), some (vI root), some (vI x)], [vI (al i), vI x, vR 105], LAY (u (u A 105 l105) 104 (wr l104 x 0)) F, 0, 0)) hc115 0 rfl trivial ?_
                refine R_s (P := ((0 ≤ x ∧ x < ((l105).length : Int)) ∧ (al i = 0 ∨ al i = 1)) ∧ inI (x + 1) ∧ True) (f' := (2, [some (vR 88), some (vI root), some (vI (x + 1))], [], LAY (u (u A 104 (wr l104 x 0)) 105 (wr l105 x (al i))) F, 0, 0)) hc115 3 rfl ⟨⟨⟨by omega, by omega⟩, by omega⟩, ⟨by omega, by omega⟩, trivial⟩ ?_
                refine ih (i + 1) _ _ _ (by omega) (by rw [wr_len]; exact hl4) (by rw [wr_len]; exact hl5) (fun p hp => ?_) (by omega) (by omega)
                rw [rd_wr (by omega) (by omega) (by omega), rd_wr (by omega) (by omega) (by omega)]
                by_cases e : (p : Int) = x
                · rw [if_pos e, if_pos e]
                  have e2 : p = i := by omega
                  subst e2
                  refine ⟨?_, rfl⟩
                  have hor2 := hor (by omega)
                  revert hor2
                  (repeat' split) <;> omega
                · rw [if_neg e, if_neg e]
                  exact hz p (by omega)
              · refine R_s (P := ((0 ≤ x ∧ x < ((l104).length : Int)) ∧ (1 = 0 ∨ 1 = 1)) ∧ True) (f' := (62, [some (vR 88), some (vI root), some (vI x)], [vI x, vR 88, vI x, vR 105], LAY (u (u A 105 l105) 104 (wr l104 x 1)) F, 0, 0)) hc115 8 rfl ⟨⟨⟨by omega, by omega⟩, by omega⟩, trivial⟩ ?_
                refine R_cv hc115 rfl rfl (l_lives (A := (u (u A 105 l105) 104 (wr l104 x 1))) (F := F) hn hn30 h91 h92 h93 h94 hU hTk hal (k := i) ex (by omega)) (fun r G9 hp9 => ?_)
                obtain ⟨rfl, rfl⟩ := hp9
                refine R_s (f' := (65, [some (vR 88), some (vI root), some (vI x)], [vI (al i), vI x, vR 105], LAY (u (u A 105 l105) 104 (wr l104 x 1)) F, 0, 0)) hc115 0 rfl trivial ?_
                refine R_s (P := ((0 ≤ x ∧ x < ((l105).length : Int)) ∧ (al i = 0 ∨ al i = 1)) ∧ inI (x + 1) ∧ True) (f' := (2, [some (vR 88), some (vI root), some (vI (x + 1))], [], LAY (u (u A 104 (wr l104 x 1)) 105 (wr l105 x (al i))) F, 0, 0)) hc115 3 rfl ⟨⟨⟨by omega, by omega⟩, by omega⟩, ⟨by omega, by omega⟩, trivial⟩ ?_
                refine ih (i + 1) _ _ _ (by omega) (by rw [wr_len]; exact hl4) (by rw [wr_len]; exact hl5) (fun p hp => ?_) (by omega) (by omega)
                rw [rd_wr (by omega) (by omega) (by omega), rd_wr (by omega) (by omega) (by omega)]
                by_cases e : (p : Int) = x
                · rw [if_pos e, if_pos e]
                  have e2 : p = i := by omega
                  subst e2
                  refine ⟨?_, rfl⟩
                  have hor2 := hor (by omega)
                  revert hor2
                  (repeat' split) <;> omega
                · rw [if_neg e, if_neg e]
                  exact hz p (by omega)
  refine R_s (P := True) (f' := (0, [some (vR 88), some (vI root), none], [], LAY (u (u A 104 (A 104)) 105 (A 105)) F, 0, 0)) hc115 0 (by rw [u_self, u_self]; rfl) trivial ?_
  refine R_s (P := True) (f' := (2, [some (vR 88), some (vI root), some (vI 0)], [], LAY (u (u A 104 (A 104)) 105 (A 105)) F, 0, 0)) hc115 2 rfl trivial ?_
  exact lp1 (n + 1) 0 _ _ _ rfl h104 h105 (fun p hp => absurd hp (by omega)) (by omega) (by omega)

theorem l_ofLine {A : Nat → List Int} {F : Nat → Int} {n : Nat} (hn : (n : Int) = F 19) (hn30 : n ≤ 30) (h91 : (A 91).length = 30) (h92 : (A 92).length = 30) (h93 : (A 93).length = 30) (h94 : (A 94).length = 30) (hU : ∀ p : Nat, p < n → rd (A 93) p = 0 ∨ rd (A 93) p = 1) (hTk : ∀ p : Nat, p < n → rd (A 94) p = 0 ∨ rd (A 94) p = 1) {al : Nat → Int} (hal : ∀ p : Nat, p < n → al p = LV (F 18) (A 91) (A 93) (A 92) (fun p => rd (A 94) p) p) (hT : TR (A 90) n) (h90 : (A 90).length = 30) {root : Int} {ro : Nat} (hro : root = ro) (hr : ro < n) (h104 : (A 104).length = 30) (h105 : (A 105).length = 30) : R 116 (0, L0 116 [vR 88, vI root], [], LAY A F, 0, 0) (fun r G => r = some (vI (CN (A 90) n al ro)) ∧ ∃ l104 l105, G = LAY (u (u A 104 l104) 105 l105) F ∧ l104.length = 30 ∧ l105.length = 30 ∧ ∀ p : Nat, p < n → rd l104 p = rq (A 90) 0 ro p ∧ (rd l105 p = 0 ∨ rd l105 p = 1) ∧ (rd l105 p = 1 ↔ 0 < CN (A 90) n al p)) := by
  have ha : ∀ p : Nat, p < n → al p = 0 ∨ al p = 1 := fun p hp => by
    rw [hal p hp]
    exact LV_01 (hTk p hp)
  have lp : ∀ (m i : Nat) (x : Int) (s : Int) (l104 : List Int) (l105 : List Int), x = (i : Int) → s = sm (fun p => rq (A 90) 0 ro p * al p) i → l104.length = 30 → l105.length = 30 → (∀ p : Nat, p < n → rd l104 p = rq (A 90) 0 ro p ∧ (rd l105 p = 0 ∨ rd l105 p = 1) ∧ (rd l105 p = 1 ↔ 0 < CN (A 90) n al p)) → i ≤ n → n + 1 ≤ i + m → R 116 (9, [some (vR 88), some (vI root), some (vI s), some (vI x)], [], LAY (u (u A 104 l104) 105 l105) F, 0, 0) (fun r G => r = some (vI (CN (A 90) n al ro)) ∧ ∃ l104 l105, G = LAY (u (u A 104 l104) 105 l105) F ∧ l104.length = 30 ∧ l105.length = 30 ∧ ∀ p : Nat, p < n → rd l104 p = rq (A 90) 0 ro p ∧ (rd l105 p = 0 ∨ rd l105 p = 1) ∧ (rd l105 p = 1 ↔ 0 < CN (A 90) n al p)) := by
    intro m
    induction m with
    | zero =>
      intro i x s l104 l105 ex es hl4 hl5 hf hi hm
      exact absurd hm (by omega)
    | succ m ih =>
      intro i x s l104 l105 ex es hl4 hl5 hf hi hm
      have hbd := sm_bd (g := fun p => rq (A 90) 0 ro p * al p) (b := 1) i (fun j hj => by have := (mul_01 (rq_01 (P := A 90) (q := 0) (p := ro) j) (ha j (by omega))).1; omega)
      rw [← es] at hbd
      have g3 := ha i
      have g4 := rq_01 (P := A 90) (q := 0) (p := ro) i
      have g5 := fun hi2 => mul_01 (rq_01 (P := A 90) (q := 0) (p := ro) i) (ha i hi2)
      have g2 := fun hi2 => (hf i hi2).1
      rw [← ex] at g2
      refine R_s (P := True) (f' := (14, [some (vR 88), some (vI root), some (vI s), some (vI x)], [vI (F 19), vI x], LAY (u (u A 104 l104) 105 l105) F, 0, 0)) hc116 3 rfl trivial ?_
      refine R_ic (t := 48) hc116 rfl rfl (fun (c1 : F 19 ≤ x) => ?_) (fun (c1 : ¬ (F 19 ≤ x)) => ?_)
      · refine R_s (P := True) (f' := (49, [some (vR 88), some (vI root), some (vI s), some (vI x)], [vI s], LAY (u (u A 104 l104) 105 l105) F, 0, 0)) hc116 1 rfl trivial ?_
        exact R_reti hc116 rfl rfl ⟨by rw [es, show i = n by omega]; rfl, l104, l105, rfl, hl4, hl5, hf⟩
      · refine R_s (P := (0 ≤ x ∧ x < ((l104).length : Int)) ∧ True) (f' := (24, [some (vR 88), some (vI root), some (vI s), some (vI x)], [vI (rd l104 x), vI s], LAY (u (u A 104 l104) 105 l105) F, 0, 0)) hc116 5 rfl ⟨⟨by omega, by omega⟩, trivial⟩ ?_
        refine R_if (t := 39) hc116 rfl rfl (fun (c2 : rd l104 x = 0) => ?_) (fun (c2 : ¬ (rd l104 x = 0)) => ?_)
        · refine R_s (P := inI (s + 0) ∧ inI (x + 1) ∧ True) (f' := (9, [some (vR 88), some (vI root), some (vI (s + 0)), some (vI (x + 1))], [], LAY (u (u A 104 l104) 105 l105) F, 0, 0)) hc116 5 rfl ⟨⟨by omega, by omega⟩, ⟨by omega, by omega⟩, trivial⟩ ?_
          have g6 := (g5 (by omega)).1
          have g7 := (g5 (by omega)).2
          exact ih (i + 1) _ _ _ _ (by omega) (by simp only [sm]; rw [← es]; omega) hl4 hl5 hf (by omega) (by omega)
        · refine R_s (P := True) (f' := (29, [some (vR 88), some (vI root), some (vI s), some (vI x)], [vI x, vR 88, vI s], LAY (u (u A 104 l104) 105 l105) F, 0, 0)) hc116 2 rfl trivial ?_
          refine R_cv hc116 rfl rfl (l_lives (A := (u (u A 104 l104) 105 l105)) (F := F) hn hn30 h91 h92 h93 h94 hU hTk hal (k := i) ex (by omega)) (fun r G9 hp9 => ?_)
          obtain ⟨rfl, rfl⟩ := hp9
          refine R_s (f' := (32, [some (vR 88), some (vI root), some (vI s), some (vI x)], [vI (al i), vI s], LAY (u (u A 104 l104) 105 l105) F, 0, 0)) hc116 0 rfl trivial ?_
          refine R_if (t := 39) hc116 rfl rfl (fun (c3 : al i = 0) => ?_) (fun (c3 : ¬ (al i = 0)) => ?_)
          · refine R_s (P := inI (s + 0) ∧ inI (x + 1) ∧ True) (f' := (9, [some (vR 88), some (vI root), some (vI (s + 0)), some (vI (x + 1))], [], LAY (u (u A 104 l104) 105 l105) F, 0, 0)) hc116 5 rfl ⟨⟨by omega, by omega⟩, ⟨by omega, by omega⟩, trivial⟩ ?_
            have g6 := (g5 (by omega)).1
            have g7 := (g5 (by omega)).2
            exact ih (i + 1) _ _ _ _ (by omega) (by simp only [sm]; rw [← es]; omega) hl4 hl5 hf (by omega) (by omega)
          · refine R_s (P := inI (s + 1) ∧ inI (x + 1) ∧ True) (f' := (9, [some (vR 88), some (vI root), some (vI (s + 1)), some (vI (x + 1))], [], LAY (u (u A 104 l104) 105 l105) F, 0, 0)) hc116 6 rfl ⟨⟨by omega, by omega⟩, ⟨by omega, by omega⟩, trivial⟩ ?_
            have g6 := (g5 (by omega)).1
            have g7 := (g5 (by omega)).2
            exact ih (i + 1) _ _ _ _ (by omega) (by simp only [sm]; rw [← es]; omega) hl4 hl5 hf (by omega) (by omega)
  refine R_s (P := True) (f' := (2, [some (vR 88), some (vI root), none, none], [vI root, vR 88], LAY A F, 0, 0)) hc116 2 rfl trivial ?_
  refine R_cv hc116 rfl rfl (l_findLine (A := A) hn hn30 h91 h92 h93 h94 hU hTk hal hT h90 hro hr h104 h105) (fun r G9 hp9 => ?_)
  obtain ⟨rfl, l104, l105, rfl, hl4, hl5, hf⟩ := hp9
  refine R_s (f' := (5, [some (vR 88), some (vI root), none, none], [], LAY (u (u A 104 l104) 105 l105) F, 0, 0)) hc116 0 rfl trivial ?_
  refine R_s (P := True) (f' := (9, [some (vR 88), some (vI root), some (vI 0), some (vI 0)], [], LAY (u (u A 104 l104) 105 l105) F, 0, 0)) hc116 4 rfl trivial ?_
  exact lp (n + 1) 0 _ _ _ _ rfl rfl hl4 hl5 hf (by omega) (by omega)

theorem l_managerOf {A : Nat → List Int} {F : Nat → Int} {n : Nat} (hn : (n : Int) = F 19) (hn30 : n ≤ 30) (h91 : (A 91).length = 30) (h92 : (A 92).length = 30) (h93 : (A 93).length = 30) (h94 : (A 94).length = 30) (hU : ∀ p : Nat, p < n → rd (A 93) p = 0 ∨ rd (A 93) p = 1) (hTk : ∀ p : Nat, p < n → rd (A 94) p = 0 ∨ rd (A 94) p = 1) {al : Nat → Int} (hal : ∀ p : Nat, p < n → al p = LV (F 18) (A 91) (A 93) (A 92) (fun p => rd (A 94) p) p) (hT : TR (A 90) n) (h90 : (A 90).length = 30) {root : Int} {ro : Nat} (hro : root = ro) (hr : ro < n) (h104 : (A 104).length = 30) (h105 : (A 105).length = 30) : R 144 (0, L0 144 [vR 88, vI root], [], LAY A F, 0, 0) (fun r G => r = some (vI (fb (fun p => rq (A 90) 0 ro p * al p) (A 91) n)) ∧ ∃ l104 l105, G = LAY (u (u A 104 l104) 105 l105) F ∧ l104.length = 30 ∧ l105.length = 30 ∧ ∀ p : Nat, p < n → rd l104 p = rq (A 90) 0 ro p ∧ (rd l105 p = 0 ∨ rd l105 p = 1) ∧ (rd l105 p = 1 ↔ 0 < CN (A 90) n al p)) := by
  have ha : ∀ p : Nat, p < n → al p = 0 ∨ al p = 1 := fun p hp => by
    rw [hal p hp]
    exact LV_01 (hTk p hp)
  have lp : ∀ (m i : Nat) (x : Int) (s : Int) (l104 : List Int) (l105 : List Int), x = (i : Int) → s = fb (fun p => rq (A 90) 0 ro p * al p) (A 91) i → l104.length = 30 → l105.length = 30 → (∀ p : Nat, p < n → rd l104 p = rq (A 90) 0 ro p ∧ (rd l105 p = 0 ∨ rd l105 p = 1) ∧ (rd l105 p = 1 ↔ 0 < CN (A 90) n al p)) → i ≤ n → n + 1 ≤ i + m → R 144 (9, [some (vR 88), some (vI root), some (vI s), some (vI x)], [], LAY (u (u A 104 l104) 105 l105) F, 0, 0) (fun r G => r = some (vI (fb (fun p => rq (A 90) 0 ro p * al p) (A 91) n)) ∧ ∃ l104 l105, G = LAY (u (u A 104 l104) 105 l105) F ∧ l104.length = 30 ∧ l105.length = 30 ∧ ∀ p : Nat, p < n → rd l104 p = rq (A 90) 0 ro p ∧ (rd l105 p = 0 ∨ rd l105 p = 1) ∧ (rd l105 p = 1 ↔ 0 < CN (A 90) n al p)) := by
    intro m
    induction m with
    | zero =>
      intro i x s l104 l105 ex es hl4 hl5 hf hi hm
      exact absurd hm (by omega)
    | succ m ih =>
      intro i x s l104 l105 ex es hl4 hl5 hf hi hm
      have hbd := fb_bd (fun p => rq (A 90) 0 ro p * al p) (A 91) i
      rw [← es] at hbd
      have g3 := ha i
      have g4 := rq_01 (P := A 90) (q := 0) (p := ro) i
      have g5 := fun hi2 => mul_01 (rq_01 (P := A 90) (q := 0) (p := ro) i) (ha i hi2)
      have g2 := fun hi2 => (hf i hi2).1
      rw [← ex] at g2
      refine R_s (P := True) (f' := (14, [some (vR 88), some (vI root), some (vI s), some (vI x)], [vI (F 19), vI x], LAY (u (u A 104 l104) 105 l105) F, 0, 0)) hc144 3 rfl trivial ?_
      refine R_ic (t := 62) hc144 rfl rfl (fun (c1 : F 19 ≤ x) => ?_) (fun (c1 : ¬ (F 19 ≤ x)) => ?_)
      · refine R_s (P := True) (f' := (63, [some (vR 88), some (vI root), some (vI s), some (vI x)], [vI s], LAY (u (u A 104 l104) 105 l105) F, 0, 0)) hc144 1 rfl trivial ?_
        exact R_reti hc144 rfl rfl ⟨by rw [es, show i = n by omega], l104, l105, rfl, hl4, hl5, hf⟩
      · refine R_s (P := (0 ≤ x ∧ x < ((l104).length : Int)) ∧ True) (f' := (23, [some (vR 88), some (vI root), some (vI s), some (vI x)], [vI (rd l104 x)], LAY (u (u A 104 l104) 105 l105) F, 0, 0)) hc144 4 rfl ⟨⟨by omega, by omega⟩, trivial⟩ ?_
        refine R_if (t := 56) hc144 rfl rfl (fun (c2 : rd l104 x = 0) => ?_) (fun (c2 : ¬ (rd l104 x = 0)) => ?_)
        · refine R_s (P := inI (x + 1) ∧ True) (f' := (9, [some (vR 88), some (vI root), some (vI s), some (vI (x + 1))], [], LAY (u (u A 104 l104) 105 l105) F, 0, 0)) hc144 2 rfl ⟨⟨by omega, by omega⟩, trivial⟩ ?_
          have g6 := (g5 (by omega)).1
          have g7 := (g5 (by omega)).2
          refine ih (i + 1) _ _ _ _ (by omega) ?_ hl4 hl5 hf (by omega) (by omega)
          simp only [fb]
          rw [← es, ← ex]
          rw [if_neg (by omega)]
        · refine R_s (P := True) (f' := (28, [some (vR 88), some (vI root), some (vI s), some (vI x)], [vI x, vR 88], LAY (u (u A 104 l104) 105 l105) F, 0, 0)) hc144 2 rfl trivial ?_
          refine R_cv hc144 rfl rfl (l_lives (A := (u (u A 104 l104) 105 l105)) (F := F) hn hn30 h91 h92 h93 h94 hU hTk hal (k := i) ex (by omega)) (fun r G9 hp9 => ?_)
          obtain ⟨rfl, rfl⟩ := hp9
          refine R_s (f' := (31, [some (vR 88), some (vI root), some (vI s), some (vI x)], [vI (al i)], LAY (u (u A 104 l104) 105 l105) F, 0, 0)) hc144 0 rfl trivial ?_
          refine R_if (t := 56) hc144 rfl rfl (fun (c3 : al i = 0) => ?_) (fun (c3 : ¬ (al i = 0)) => ?_)
          · refine R_s (P := inI (x + 1) ∧ True) (f' := (9, [some (vR 88), some (vI root), some (vI s), some (vI (x + 1))], [], LAY (u (u A 104 l104) 105 l105) F, 0, 0)) hc144 2 rfl ⟨⟨by omega, by omega⟩, trivial⟩ ?_
            have g6 := (g5 (by omega)).1
            have g7 := (g5 (by omega)).2
            refine ih (i + 1) _ _ _ _ (by omega) ?_ hl4 hl5 hf (by omega) (by omega)
            simp only [fb]
            rw [← es, ← ex]
            rw [if_neg (by omega)]
          · refine R_s (P := True) (f' := (36, [some (vR 88), some (vI root), some (vI s), some (vI x)], [vI (-1), vI s], LAY (u (u A 104 l104) 105 l105) F, 0, 0)) hc144 2 rfl trivial ?_
            refine R_ic (t := 54) hc144 rfl rfl (fun (c4 : s = (-1)) => ?_) (fun (c4 : ¬ (s = (-1))) => ?_)
            · refine R_s (P := inI (x + 1) ∧ True) (f' := (9, [some (vR 88), some (vI root), some (vI x), some (vI (x + 1))], [], LAY (u (u A 104 l104) 105 l105) F, 0, 0)) hc144 4 rfl ⟨⟨by omega, by omega⟩, trivial⟩ ?_
              have g6 := (g5 (by omega)).1
              have g7 := (g5 (by omega)).2
              refine ih (i + 1) _ _ _ _ (by omega) ?_ hl4 hl5 hf (by omega) (by omega)
              simp only [fb]
              rw [← es, ← ex]
              rw [if_pos ⟨by omega, by omega⟩]
            · refine R_s (P := (0 ≤ x ∧ x < ((A 91).length : Int)) ∧ (0 ≤ s ∧ s < ((A 91).length : Int)) ∧ True) (f' := (51, [some (vR 88), some (vI root), some (vI s), some (vI x)], [vI (rd (A 91) s), vI (rd (A 91) x)], LAY (u (u A 104 l104) 105 l105) F, 0, 0)) hc144 8 rfl ⟨⟨by omega, by omega⟩, ⟨by omega, by omega⟩, trivial⟩ ?_
              refine R_ic (t := 56) hc144 rfl rfl (fun (c5 : rd (A 91) s ≤ rd (A 91) x) => ?_) (fun (c5 : ¬ (rd (A 91) s ≤ rd (A 91) x)) => ?_)
              · refine R_s (P := inI (x + 1) ∧ True) (f' := (9, [some (vR 88), some (vI root), some (vI s), some (vI (x + 1))], [], LAY (u (u A 104 l104) 105 l105) F, 0, 0)) hc144 2 rfl ⟨⟨by omega, by omega⟩, trivial⟩ ?_
                have g6 := (g5 (by omega)).1
                have g7 := (g5 (by omega)).2
                refine ih (i + 1) _ _ _ _ (by omega) ?_ hl4 hl5 hf (by omega) (by omega)
                simp only [fb]
                rw [← es, ← ex]
                rw [if_neg (by omega)]
              · refine R_s (P := inI (x + 1) ∧ True) (f' := (9, [some (vR 88), some (vI root), some (vI x), some (vI (x + 1))], [], LAY (u (u A 104 l104) 105 l105) F, 0, 0)) hc144 4 rfl ⟨⟨by omega, by omega⟩, trivial⟩ ?_
                have g6 := (g5 (by omega)).1
                have g7 := (g5 (by omega)).2
                refine ih (i + 1) _ _ _ _ (by omega) ?_ hl4 hl5 hf (by omega) (by omega)
                simp only [fb]
                rw [← es, ← ex]
                rw [if_pos ⟨by omega, by omega⟩]
  refine R_s (P := True) (f' := (2, [some (vR 88), some (vI root), none, none], [vI root, vR 88], LAY A F, 0, 0)) hc144 2 rfl trivial ?_
  refine R_cv hc144 rfl rfl (l_findLine (A := A) hn hn30 h91 h92 h93 h94 hU hTk hal hT h90 hro hr h104 h105) (fun r G9 hp9 => ?_)
  obtain ⟨rfl, l104, l105, rfl, hl4, hl5, hf⟩ := hp9
  refine R_s (f' := (5, [some (vR 88), some (vI root), none, none], [], LAY (u (u A 104 l104) 105 l105) F, 0, 0)) hc144 0 rfl trivial ?_
  refine R_s (P := True) (f' := (9, [some (vR 88), some (vI root), some (vI (-1)), some (vI 0)], [], LAY (u (u A 104 l104) 105 l105) F, 0, 0)) hc144 4 rfl trivial ?_
  exact lp (n + 1) 0 _ _ _ _ rfl rfl hl4 hl5 hf (by omega) (by omega)

theorem l_childrenM {A : Nat → List Int} {F : Nat → Int} {n : Nat} (hn : (n : Int) = F 19) (hn30 : n ≤ 30)  (h90 : (A 90).length = 30) {q : Int} : R 117 (0, L0 117 [vR 88, vI q], [], LAY A F, 0, 0) (fun r G => r = some (vI (sm (fun c => if rd (A 90) c = q then 1 else 0) n)) ∧ G = LAY A F) := by
  have lp : ∀ (m i : Nat) (x : Int) (s : Int), x = (i : Int) → s = sm (fun c => if rd (A 90) c = q then 1 else 0) i → i ≤ n → n + 1 ≤ i + m → R 117 (4, [some (vR 88), some (vI q), some (vI s), some (vI x)], [], LAY A F, 0, 0) (fun r G => r = some (vI (sm (fun c => if rd (A 90) c = q then 1 else 0) n)) ∧ G = LAY A F) := by
    intro m
    induction m with
    | zero =>
      intro i x s ex es hi hm
      exact absurd hm (by omega)
    | succ m ih =>
      intro i x s ex es hi hm
      have hbd := sm_bd (g := fun c : Nat => if rd (A 90) c = q then 1 else 0) (b := 1) i (fun j hj => by (try dsimp only); split <;> omega)
      rw [← es] at hbd
      refine R_s (P := True) (f' := (9, [some (vR 88), some (vI q), some (vI s), some (vI x)], [vI (F 19), vI x], LAY A F, 0, 0)) hc117 3 rfl trivial ?_
      refine R_ic (t := 36) hc117 rfl rfl (fun (c1 : F 19 ≤ x) => ?_) (fun (c1 : ¬ (F 19 ≤ x)) => ?_)
      · refine R_s (P := True) (f' := (37, [some (vR 88), some (vI q), some (vI s), some (vI x)], [vI s], LAY A F, 0, 0)) hc117 1 rfl trivial ?_
        exact R_reti hc117 rfl rfl ⟨by rw [es, show i = n by omega], rfl⟩
      · refine R_s (P := (0 ≤ x ∧ x < ((A 90).length : Int)) ∧ True) (f' := (20, [some (vR 88), some (vI q), some (vI s), some (vI x)], [vI q, vI (rd (A 90) x), vI s], LAY A F, 0, 0)) hc117 6 rfl ⟨⟨by omega, by omega⟩, trivial⟩ ?_
        refine R_ic (t := 27) hc117 rfl rfl (fun (c2 : ¬ rd (A 90) x = q) => ?_) (fun (c2 : ¬ (¬ rd (A 90) x = q)) => ?_)
        · refine R_s (P := inI (s + 0) ∧ inI (x + 1) ∧ True) (f' := (4, [some (vR 88), some (vI q), some (vI (s + 0)), some (vI (x + 1))], [], LAY A F, 0, 0)) hc117 5 rfl ⟨⟨by omega, by omega⟩, ⟨by omega, by omega⟩, trivial⟩ ?_
          exact ih (i + 1) _ _ (by omega) (by simp only [sm]; rw [← es]; subst ex; split <;> omega) (by omega) (by omega)
        · refine R_s (P := inI (s + 1) ∧ inI (x + 1) ∧ True) (f' := (4, [some (vR 88), some (vI q), some (vI (s + 1)), some (vI (x + 1))], [], LAY A F, 0, 0)) hc117 6 rfl ⟨⟨by omega, by omega⟩, ⟨by omega, by omega⟩, trivial⟩ ?_
          exact ih (i + 1) _ _ (by omega) (by simp only [sm]; rw [← es]; subst ex; split <;> omega) (by omega) (by omega)
  refine R_s (P := True) (f' := (4, [some (vR 88), some (vI q), some (vI 0), some (vI 0)], [], LAY A F, 0, 0)) hc117 4 rfl trivial ?_
  exact lp (n + 1) 0 _ _ rfl rfl (by omega) (by omega)

