theorem l_works {A : Nat → List Int} {F : Nat → Int} {n : Nat} (hn : (n : Int) = F 19) (hn30 : n ≤ 30) (h91 : (A 91).length = 30) (h92 : (A 92).length = 30) (h93 : (A 93).length = 30) (h94 : (A 94).length = 30) (hU : ∀ p : Nat, p < n → rd (A 93) p = 0 ∨ rd (A 93) p = 1) (hTk : ∀ p : Nat, p < n → rd (A 94) p = 0 ∨ rd (A 94) p = 1) {al : Nat → Int} (hal : ∀ p : Nat, p < n → al p = LV (F 18) (A 91) (A 93) (A 92) (fun p => rd (A 94) p) p) (hT : TR (A 90) n) (h90 : (A 90).length = 30) {Q : Nat → List Int} {e : Nat} (hQ : QOK n Q e) {d : Int} (hM : MD (A 99) (A 100) Q e d) (h104 : (A 104).length = 30) (h105 : (A 105).length = 30) (h107 : (A 107).length = 6) (h108 : (A 108).length = 30) (h109 : (A 109).length = 30) (h110 : (A 110).length = 30) (h111 : (A 111).length = 30) {yr Y : Int} (h18 : F 18 = yr) (hY : 0 ≤ Y ∧ Y ≤ 99990) (hYM : R 141 (0, L0 141 [vR 88, vI d], [], LAY A F, 0, 0) (fun r G => r = some (vI Y) ∧ G = LAY A F)) {so : Nat → Int} (hso9 : so = T_so n yr Y (A 90) al Q e) {mg pm lo ac : Int} (hac : ac = S_ac n (A 90) al Q e) (hmg : mg = S_mg n (A 90) (A 91) al Q so) (hpm : pm = S_pm Y Q mg) (hlo : lo = S_fx Q so (Y - pm) e) : R 146 (0, L0 146 [vR 88, vI d], [], LAY A F, 0, 0) (fun r G => r = none ∧ ∃ l104 l105 l107 l108 l109 l110 l111, G = LAY (u (u (u (u (u (u (u A 109 l109) 104 l104) 105 l105) 110 l110) 111 l111) 108 l108) 107 l107) (u (u (u (u F 28 Y) 29 ac) 30 mg) 31 lo) ∧ l104.length = 30 ∧ l105.length = 30 ∧ l107.length = 6 ∧ l108.length = 30 ∧ l109.length = 30 ∧ l110.length = 30 ∧ l111.length = 30 ∧ (∀ j : Nat, j < e → rd l107 j = S_te n (A 90) al Q so pm (Y - pm) lo e j) ∧ ∀ p : Nat, p < n → rd l108 p = (if mg = p then pm else 0) + S_ls n (A 90) al Q so lo e p) := by
  have ha : ∀ p : Nat, p < n → al p = 0 ∨ al p = 1 := fun p hp => by
    rw [hal p hp]
    exact LV_01 (hTk p hp)
  have h99 := hM.1
  have h100 := hM.2.1
  have hd := hM.2.2.1
  have hme := hM.2.2.2.1
  have hMi := hM.2.2.2.2
  have he1 := hQ.1
  have he2 := hQ.2.1
  have hs01 : ∀ i : Nat, so i = 0 ∨ so i = 1 := fun i => by rw [hso9]; exact S_so_01 i
  have eso : ∀ i : Nat, S_so yr Y ac Q i = so i := fun i => by rw [hso9, hac]; rfl
  have hNe : ∀ j : Nat, j < e → rd (Q 0) j = 1 → 0 ≤ rd (Q 1) j ∧ rd (Q 1) j ≤ 12 := fun j hj hj2 => by
    have z := hQ.2.2.2 j hj
    exact ⟨by have := z.2.2.2.1; omega, (z.2.2.2.2.2.2.1 hj2).2⟩
  have hNf : ∀ j : Nat, j < e → rd (Q 0) j = 0 → 0 ≤ rd (Q 1) j := fun j hj hj2 => by
    have z := (hQ.2.2.2 j hj).2.2.2.1
    omega
  have hpb : 0 ≤ pm ∧ pm ≤ Y := by
    rw [hpm]
    refine S_pm_bd hY.1 (fun q => ?_)
    have z := hQ.2.2.2 0 (by omega)
    have z2 : rd (Q 0) 0 = 2 := by
      refine Classical.byContradiction (fun q2 => q ?_)
      rw [hmg]
      unfold S_mg
      rw [if_neg (fun q3 => q2 q3.1)]
    have z4 := z.2.2.2.1
    have z3 : rd (Q 0) ((0 : Nat) : Int) = 2 := z2
    have z5 : 0 ≤ rd (Q 1) ((0 : Nat) : Int) := by omega
    exact ⟨z5, (z.2.2.1 z2).2⟩
  have hlb : 0 ≤ lo ∧ lo ≤ 99990 := by
    have z := S_fx_bd (Q := Q) (so := so) (r := Y - pm) (by omega) e hNf
    rw [hlo]
    omega
  refine R_s (P := True) (f' := (3, [some (vR 88), some (vI d), none, none, none, none, none], [vI d, vR 88, vR 88], LAY A F, 0, 0)) hc146 3 rfl trivial ?_
  refine R_cv hc146 rfl rfl (hYM) (fun r G9 hp9 => ?_)
  obtain ⟨rfl, rfl⟩ := hp9
  refine R_s (f' := (6, [some (vR 88), some (vI d), none, none, none, none, none], [vI Y, vR 88], LAY A F, 0, 0)) hc146 0 rfl trivial ?_
  refine R_s (P := True) (f' := (12, [some (vR 88), some (vI d), none, none, none, none, none], [vI d, vR 88, vR 88], LAY A (u F 28 Y), 0, 0)) hc146 4 rfl trivial ?_
  refine R_cv hc146 rfl rfl (l_aliveOf (A := A) (F := (u F 28 Y)) hn hn30 h91 h92 h93 h94 hU hTk hal hT h90 hQ hM h104 h105 h109) (fun r G9 hp9 => ?_)
  obtain ⟨e1, l104, l105, l109, rfl, hl4, hl5, hl9⟩ := hp9
  rw [← hac] at e1
  subst e1
  refine R_s (f' := (15, [some (vR 88), some (vI d), none, none, none, none, none], [vI ac, vR 88], LAY (u (u (u A 104 l104) 105 l105) 109 l109) (u F 28 Y), 0, 0)) hc146 0 rfl trivial ?_
  refine R_s (P := True) (f' := (33, [some (vR 88), some (vI d), some (vI 0), none, none, none, none], [], LAY (u (u (u A 104 l104) 105 l105) 109 l109) (u (u (u (u F 28 Y) 29 ac) 30 (-1)) 31 Y), 0, 0)) hc146 10 rfl trivial ?_
  have lp2 : ∀ (m i : Nat) (x : Int) (v4 : Option AV) (v5 : Option AV) (v6 : Option AV) (rest : Int) (a4 : List Int) (a5 : List Int) (b110 : List Int) (b111 : List Int) (b107 : List Int) (b108 : List Int), x = (i : Int) → a4.length = 30 → a5.length = 30 → b110.length = 30 → b111.length = 30 → b107.length = 6 → b108.length = 30 → rest = S_rs n (A 90) al Q so lo i → (∀ j : Nat, j < e → rd b107 j = if rd (Q 0) j = 1 ∧ i ≤ j then 0 else S_ge n (A 90) al Q so pm (Y - pm) lo j) → (∀ p : Nat, p < n → rd b108 p = (if mg = p then pm else 0) + S_ls n (A 90) al Q so lo i p) → i ≤ e → e + 1 ≤ i + m → R 146 (273, [some (vR 88), some (vI d), some (vI rest), some (vI x), v4, v5, v6], [], LAY (u (u (u (u (u (u (u A 109 l109) 104 a4) 105 a5) 110 b110) 111 b111) 108 b108) 107 b107) (u (u (u (u F 28 Y) 29 ac) 30 mg) 31 lo), 0, 0) (fun r G => r = none ∧ ∃ l104 l105 l107 l108 l109 l110 l111, G = LAY (u (u (u (u (u (u (u A 109 l109) 104 l104) 105 l105) 110 l110) 111 l111) 108 l108) 107 l107) (u (u (u (u F 28 Y) 29 ac) 30 mg) 31 lo) ∧ l104.length = 30 ∧ l105.length = 30 ∧ l107.length = 6 ∧ l108.length = 30 ∧ l109.length = 30 ∧ l110.length = 30 ∧ l111.length = 30 ∧ (∀ j : Nat, j < e → rd l107 j = S_te n (A 90) al Q so pm (Y - pm) lo e j) ∧ ∀ p : Nat, p < n → rd l108 p = (if mg = p then pm else 0) + S_ls n (A 90) al Q so lo e p) := by
    intro m
    induction m with
    | zero =>
      intro i x v4 v5 v6 rest a4 a5 b110 b111 b107 b108 ex ha4 ha5 hb10 hb11 hb7 hb8 hr h7 h8 hi hm
      exact absurd hm (by omega)
    | succ m ih =>
      intro i x v4 v5 v6 rest a4 a5 b110 b111 b107 b108 ex ha4 ha5 hb10 hb11 hb7 hb8 hr h7 h8 hi hm
      have m0 : i < e → rd (A 100) (48 * d + 8 * x) = rd (Q 0) i := fun q => by rw [ex]; exact (hMi i q).1
      have m1 : i < e → rd (Q 0) i = 1 → rd (A 100) (48 * d + 8 * x + 1) = rd (Q 1) i := fun q q1 => by
        rw [ex]
        exact (hMi i q).2.1.resolve_left (by omega)
      have m2 : i < e → rd (Q 0) i = 1 → rd (A 100) (48 * d + 8 * x + 2) = rd (Q 2) i ∧ 0 ≤ rd (Q 2) i ∧ rd (Q 2) i < n := fun q q1 => by rw [ex]; exact ⟨(hMi i q).2.2.1 (.inl q1), (hQ.2.2.2 i q).2.2.2.2.1 (.inl q1)⟩
      have m4 : i < e → rd (Q 0) i = 1 → rd (A 100) (48 * d + 8 * x + 4) = rd (Q 4) i ∧ (rd (Q 4) i = 0 ∨ rd (Q 4) i = 1) := fun q q1 => by rw [ex]; exact ⟨(hMi i q).2.2.2.2.1 q1, ((hQ.2.2.2 i q).2.2.2.2.2.2.1 q1).1⟩
      have hs1 := hs01 i
      have hk3 := fun q : i < e => (hQ.2.2.2 i q).2.1
      have il : (i : Int) * lo ≤ 6 * lo := Int.mul_le_mul_of_nonneg_right (by omega) hlb.1
      have il2 : (i : Int) * (30 * lo) ≤ 6 * (30 * lo) := Int.mul_le_mul_of_nonneg_right (by omega) (by omega)
      have hb : ∀ p : Nat, p < n → 0 ≤ rd b108 p ∧ rd b108 p ≤ 1000000 := fun p hp => by
        have z2 := S_ls_bd (so := so) (Q := Q) ha hT hn30 hp hlb.1 i (by omega) (fun j hj => hNe j (by omega))
        rw [h8 p hp]
        split <;> omega
      have hrb := S_rs_bd (so := so) (Q := Q) ha hT hn30 hlb.1 i (by omega) (fun j hj => hNe j (by omega))
      have hleb : i < e → rd (Q 0) i = 1 → 0 ≤ S_le n (A 90) al Q lo i ∧ S_le n (A 90) al Q lo i ≤ 30 * lo := fun q1 q2 => S_le_bd ha hT hn30 hlb.1 (hNe i q1 q2)
      have hmul : i < e → rd (Q 0) i = 1 → 0 ≤ lo * rd (A 100) (48 * d + 8 * x + 1) ∧ lo * rd (A 100) (48 * d + 8 * x + 1) ≤ lo * 12 := fun q q1 => by
        have z := hNe i q q1
        rw [m1 q q1]
        exact ⟨Int.mul_nonneg hlb.1 (by omega), Int.mul_le_mul_of_nonneg_left (by omega) hlb.1⟩
      refine R_s (P := (0 ≤ d ∧ d < ((A 99).length : Int)) ∧ True) (f' := (280, [some (vR 88), some (vI d), some (vI rest), some (vI x), v4, v5, v6], [vI (rd (A 99) d), vI x], LAY (u (u (u (u (u (u (u A 109 l109) 104 a4) 105 a5) 110 b110) 111 b111) 108 b108) 107 b107) (u (u (u (u F 28 Y) 29 ac) 30 mg) 31 lo), 0, 0)) hc146 5 rfl ⟨⟨by omega, by omega⟩, trivial⟩ ?_
      refine R_ic (t := 431) hc146 rfl rfl (fun (c1 : rd (A 99) d ≤ x) => ?_) (fun (c1 : ¬ (rd (A 99) d ≤ x)) => ?_)
      · refine R_s (P := (0 ≤ d ∧ d < ((A 99).length : Int)) ∧ inI ((rd (A 99) d) - 1) ∧ (0 ≤ (rd (A 99) d) - 1 ∧ (rd (A 99) d) - 1 < ((b107).length : Int)) ∧ True) (f' := (445, [some (vR 88), some (vI d), some (vI rest), some (vI x), v4, v5, v6], [], LAY (u (u (u (u (u (u (u A 109 l109) 104 a4) 105 a5) 110 b110) 111 b111) 108 b108) 107 (wr b107 ((rd (A 99) d) - 1) rest)) (u (u (u (u F 28 Y) 29 ac) 30 mg) 31 lo), 0, 0)) hc146 10 rfl ⟨⟨by omega, by omega⟩, ⟨by omega, by omega⟩, ⟨by omega, by omega⟩, trivial⟩ ?_
        refine R_retv hc146 rfl rfl ⟨rfl, a4, a5, _, b108, l109, b110, b111, rfl, ha4, ha5, by (simp only [wr_len]; omega), hb8, hl9, hb10, hb11, fun j hj => ?_, fun p hp => ?_⟩
        · have q3 := (hQ.2.2.2 j hj).2.1
          rw [rd_wr (by omega) (by omega) (by omega)]
          unfold S_te
          by_cases e3 : rd (Q 0) j = 3
          · rw [if_pos e3, if_pos (by omega), hr, show i = e by omega]
          · rw [if_neg e3, if_neg (by omega), h7 j hj, if_neg (fun z => by omega)]
        · rw [h8 p hp, show i = e by omega]
      · refine R_s (P := inI (48 * d) ∧ inI (8 * x) ∧ inI ((48 * d) + (8 * x)) ∧ (0 ≤ (48 * d) + (8 * x) ∧ (48 * d) + (8 * x) < ((A 100).length : Int)) ∧ True) (f' := (302, [some (vR 88), some (vI d), some (vI rest), some (vI x), some (vI ((48 * d) + (8 * x))), v5, v6], [vI 1, vI (rd (A 100) ((48 * d) + (8 * x)))], LAY (u (u (u (u (u (u (u A 109 l109) 104 a4) 105 a5) 110 b110) 111 b111) 108 b108) 107 b107) (u (u (u (u F 28 Y) 29 ac) 30 mg) 31 lo), 0, 0)) hc146 13 rfl ⟨⟨by omega, by omega⟩, ⟨by omega, by omega⟩, ⟨by omega, by omega⟩, ⟨by omega, by omega⟩, trivial⟩ ?_
        refine R_ic (t := 425) hc146 rfl rfl (fun (c2 : ¬ rd (A 100) ((48 * d) + (8 * x)) = 1) => ?_) (fun (c2 : ¬ (¬ rd (A 100) ((48 * d) + (8 * x)) = 1)) => ?_)
        · refine R_s (P := inI (x + 1) ∧ True) (f' := (273, [some (vR 88), some (vI d), some (vI rest), some (vI (x + 1)), some (vI ((48 * d) + (8 * x))), v5, v6], [], LAY (u (u (u (u (u (u (u A 109 l109) 104 a4) 105 a5) 110 b110) 111 b111) 108 b108) 107 b107) (u (u (u (u F 28 Y) 29 ac) 30 mg) 31 lo), 0, 0)) hc146 2 rfl ⟨⟨by omega, by omega⟩, trivial⟩ ?_
          have a1 : ¬ (so i = 1 ∧ rd (Q 0) i = 1) := fun q => by omega
          refine ih (i + 1) _ _ _ _ _ _ _ _ _ _ _ (by omega) ha4 ha5 hb10 hb11 hb7 hb8 ?_ (fun j hj => ?_) (fun p hp => ?_) (by omega) (by omega)
          · rw [hr]
            simp only [S_rs]
            rw [if_neg a1]
            omega
          · rw [h7 j hj]
            by_cases e3 : rd (Q 0) j = 1 ∧ i ≤ j
            · rw [if_pos e3]
              by_cases e2 : j = i
              · have a2 : ¬ (rd (Q 0) j = 1 ∧ i + 1 ≤ j) := fun q => by omega
                have a3 : ¬ so j = 1 := fun q => a1 (by rw [← e2]; exact ⟨q, e3.1⟩)
                rw [if_neg a2]
                unfold S_ge
                rw [if_neg (by omega), if_pos e3.1, if_neg a3]
              · rw [if_pos ⟨e3.1, by omega⟩]
            · rw [if_neg e3, if_neg (fun q => e3 ⟨q.1, by omega⟩)]
          · rw [h8 p hp]
            simp only [S_ls]
            rw [if_neg a1]
            omega
        · refine R_s (P := True) (f' := (308, [some (vR 88), some (vI d), some (vI rest), some (vI x), some (vI ((48 * d) + (8 * x))), v5, v6], [vI ((48 * d) + (8 * x)), vR 88], LAY (u (u (u (u (u (u (u A 109 l109) 104 a4) 105 a5) 110 b110) 111 b111) 108 b108) 107 b107) (u (u (u (u F 28 Y) 29 ac) 30 mg) 31 lo), 0, 0)) hc146 2 rfl trivial ?_
          refine R_cv hc146 rfl rfl (l_isSo (A := (u (u (u (u (u (u (u A 109 l109) 104 a4) 105 a5) 110 b110) 111 b111) 108 b108) 107 b107)) (F := (u (u (u (u F 28 Y) 29 ac) 30 mg) 31 lo)) hn hn30 hQ hM (i := i) (yr := yr) (Y := Y) (ac := ac) (by rw [ex]) (by omega) h18 rfl rfl) (fun r G9 hp9 => ?_)
          rw [eso] at hp9
          obtain ⟨rfl, rfl⟩ := hp9
          refine R_s (f' := (311, [some (vR 88), some (vI d), some (vI rest), some (vI x), some (vI ((48 * d) + (8 * x))), v5, v6], [vI (so i)], LAY (u (u (u (u (u (u (u A 109 l109) 104 a4) 105 a5) 110 b110) 111 b111) 108 b108) 107 b107) (u (u (u (u F 28 Y) 29 ac) 30 mg) 31 lo), 0, 0)) hc146 0 rfl trivial ?_
          refine R_if (t := 425) hc146 rfl rfl (fun (c3 : so i = 0) => ?_) (fun (c3 : ¬ (so i = 0)) => ?_)
          · refine R_s (P := inI (x + 1) ∧ True) (f' := (273, [some (vR 88), some (vI d), some (vI rest), some (vI (x + 1)), some (vI ((48 * d) + (8 * x))), v5, v6], [], LAY (u (u (u (u (u (u (u A 109 l109) 104 a4) 105 a5) 110 b110) 111 b111) 108 b108) 107 b107) (u (u (u (u F 28 Y) 29 ac) 30 mg) 31 lo), 0, 0)) hc146 2 rfl ⟨⟨by omega, by omega⟩, trivial⟩ ?_
            have a1 : ¬ (so i = 1 ∧ rd (Q 0) i = 1) := fun q => by omega
            refine ih (i + 1) _ _ _ _ _ _ _ _ _ _ _ (by omega) ha4 ha5 hb10 hb11 hb7 hb8 ?_ (fun j hj => ?_) (fun p hp => ?_) (by omega) (by omega)
            · rw [hr]
              simp only [S_rs]
              rw [if_neg a1]
              omega
            · rw [h7 j hj]
              by_cases e3 : rd (Q 0) j = 1 ∧ i ≤ j
              · rw [if_pos e3]
                by_cases e2 : j = i
                · have a2 : ¬ (rd (Q 0) j = 1 ∧ i + 1 ≤ j) := fun q => by omega
                  have a3 : ¬ so j = 1 := fun q => a1 (by rw [← e2]; exact ⟨q, e3.1⟩)
                  rw [if_neg a2]
                  unfold S_ge
                  rw [if_neg (by omega), if_pos e3.1, if_neg a3]
                · rw [if_pos ⟨e3.1, by omega⟩]
              · rw [if_neg e3, if_neg (fun q => e3 ⟨q.1, by omega⟩)]
            · rw [h8 p hp]
              simp only [S_ls]
              rw [if_neg a1]
              omega
          · refine R_s (P := inI (((48 * d) + (8 * x)) + 2) ∧ (0 ≤ ((48 * d) + (8 * x)) + 2 ∧ ((48 * d) + (8 * x)) + 2 < ((A 100).length : Int)) ∧ inI (((48 * d) + (8 * x)) + 4) ∧ (0 ≤ ((48 * d) + (8 * x)) + 4 ∧ ((48 * d) + (8 * x)) + 4 < ((A 100).length : Int)) ∧ True) (f' := (333, [some (vR 88), some (vI d), some (vI rest), some (vI x), some (vI ((48 * d) + (8 * x))), v5, v6], [vI (rd (A 100) (((48 * d) + (8 * x)) + 4)), vI (rd (A 100) (((48 * d) + (8 * x)) + 2)), vR 88], LAY (u (u (u (u (u (u (u A 109 l109) 104 a4) 105 a5) 110 b110) 111 b111) 108 b108) 107 b107) (u (u (u (u F 28 Y) 29 ac) 30 mg) 31 lo), 0, 0)) hc146 13 rfl ⟨⟨by omega, by omega⟩, ⟨by omega, by omega⟩, ⟨by omega, by omega⟩, ⟨by omega, by omega⟩, trivial⟩ ?_
            refine R_cv hc146 rfl rfl (l_findShares (A := (u (u (u (u (u (u (u A 109 l109) 104 a4) 105 a5) 110 b110) 111 b111) 108 b108) 107 b107)) (F := (u (u (u (u F 28 Y) 29 ac) 30 mg) 31 lo)) hn hn30 h91 h92 h93 h94 hU hTk hal hT h90 (ro := (rd (Q 2) i).toNat) (by have := m2 (by omega) (by omega); omega) (by have := m2 (by omega) (by omega); omega) ha4 ha5 hb10 hb11 (by have := m4 (by omega) (by omega); omega)) (fun r G9 hp9 => ?_)
            obtain ⟨rfl, c4, c5, c10, c11, rfl, hg4, hg5, hg10, hg11, hq0⟩ := hp9
            have a1 : so i = 1 ∧ rd (Q 0) i = 1 := ⟨by omega, by omega⟩
            have hq : ∀ p : Nat, p < n → rd c10 p = (if SF (A 90) n al (rd (Q 4) i) (rd (Q 2) i).toNat p = 0 then 0 else 1) ∧ rd c11 p = (if SF (A 90) n al (rd (Q 4) i) (rd (Q 2) i).toNat p = 0 then 1 else SF (A 90) n al (rd (Q 4) i) (rd (Q 2) i).toNat p) := fun p hp => by
              have z := hq0 p hp
              rw [(m4 (by omega) (by omega)).1] at z
              exact z
            refine R_s (f' := (336, [some (vR 88), some (vI d), some (vI rest), some (vI x), some (vI ((48 * d) + (8 * x))), v5, v6], [], LAY (u (u (u (u (u (u (u A 109 l109) 108 b108) 107 b107) 104 c4) 105 c5) 110 c10) 111 c11) (u (u (u (u F 28 Y) 29 ac) 30 mg) 31 lo), 0, 0)) hc146 0 rfl trivial ?_
            refine R_s (P := True) (f' := (339, [some (vR 88), some (vI d), some (vI rest), some (vI x), some (vI ((48 * d) + (8 * x))), some (vI 0), v6], [], LAY (u (u (u (u (u (u (u A 109 l109) 108 b108) 107 b107) 104 c4) 105 c5) 110 c10) 111 c11) (u (u (u (u F 28 Y) 29 ac) 30 mg) 31 lo), 0, 0)) hc146 2 rfl trivial ?_
            have lpp : ∀ (mp p : Nat) (y : Int) (v6 : Option AV) (w7 : List Int) (w8 : List Int), y = (p : Int) → w7.length = 6 → w8.length = 30 → (∀ j : Nat, j < e → rd w7 j = if j = i then sm (fun q => S_am n (A 90) al Q lo i q) p else rd b107 j) → (∀ q : Nat, q < n → rd w8 q = if q < p then rd b108 q + S_am n (A 90) al Q lo i q else rd b108 q) → p ≤ n → n + 1 ≤ p + mp → R 146 (339, [some (vR 88), some (vI d), some (vI rest), some (vI x), some (vI (48 * d + 8 * x)), some (vI y), v6], [], LAY (u (u (u (u (u (u (u A 109 l109) 104 c4) 105 c5) 110 c10) 111 c11) 108 w8) 107 w7) (u (u (u (u F 28 Y) 29 ac) 30 mg) 31 lo), 0, 0) (fun r G => r = none ∧ ∃ l104 l105 l107 l108 l109 l110 l111, G = LAY (u (u (u (u (u (u (u A 109 l109) 104 l104) 105 l105) 110 l110) 111 l111) 108 l108) 107 l107) (u (u (u (u F 28 Y) 29 ac) 30 mg) 31 lo) ∧ l104.length = 30 ∧ l105.length = 30 ∧ l107.length = 6 ∧ l108.length = 30 ∧ l109.length = 30 ∧ l110.length = 30 ∧ l111.length = 30 ∧ (∀ j : Nat, j < e → rd l107 j = S_te n (A 90) al Q so pm (Y - pm) lo e j) ∧ ∀ p : Nat, p < n → rd l108 p = (if mg = p then pm else 0) + S_ls n (A 90) al Q so lo e p) := by
              intro mp
              induction mp with
              | zero =>
                intro p y v6 w7 w8 ey hw7 hw8 z7 z8 hp hmp
                exact absurd hmp (by omega)
              | succ mp ihp =>
                intro p y v6 w7 w8 ey hw7 hw8 z7 z8 hp hmp
                have hSF : p < n → 0 ≤ SF (A 90) n al (rd (Q 4) i) (rd (Q 2) i).toNat p ∧ SF (A 90) n al (rd (Q 4) i) (rd (Q 2) i).toNat p ≤ 14348907 := fun q => SF_bd ha hT hn30 q
                have hqy : p < n → rd c10 y = (if SF (A 90) n al (rd (Q 4) i) (rd (Q 2) i).toNat p = 0 then 0 else 1) ∧ rd c11 y = (if SF (A 90) n al (rd (Q 4) i) (rd (Q 2) i).toNat p = 0 then 1 else SF (A 90) n al (rd (Q 4) i) (rd (Q 2) i).toNat p) := fun q => by rw [ey]; exact hq p q
                have g8 : p < n → rd w8 y = rd b108 y ∧ 0 ≤ rd b108 y ∧ rd b108 y ≤ 1000000 := fun q => by rw [ey, z8 p q, if_neg (by omega)]; exact ⟨rfl, hb p q⟩
                have g7 : rd w7 x = sm (fun q => S_am n (A 90) al Q lo i q) p := by rw [ex, z7 i (by omega), if_pos rfl]
                have ham : p < n → 0 ≤ S_am n (A 90) al Q lo i p ∧ S_am n (A 90) al Q lo i p ≤ lo := fun q => S_am_bd ha hT hn30 q hlb.1 (hNe i (by omega) a1.2)
                have hsb : 0 ≤ sm (fun q => S_am n (A 90) al Q lo i q) p ∧ sm (fun q => S_am n (A 90) al Q lo i q) p ≤ p * lo := sm_bd p (fun j hj => S_am_bd ha hT hn30 (by omega) hlb.1 (hNe i (by omega) a1.2))
                have hpl : (p : Int) * lo ≤ 30 * lo := Int.mul_le_mul_of_nonneg_right (by omega) hlb.1
                have ka : p < n → lo * rd (A 100) (48 * d + 8 * x + 1) * rd c10 y / (12 * rd c11 y) = S_am n (A 90) al Q lo i p := fun q => by
                  unfold S_am
                  rw [(hqy q).1, (hqy q).2, m1 (by omega) a1.2]
                  by_cases q2 : SF (A 90) n al (rd (Q 4) i) (rd (Q 2) i).toNat p = 0
                  · rw [if_pos q2, if_pos q2, if_pos q2, Int.mul_zero, Int.zero_ediv]
                  · rw [if_neg q2, if_neg q2, if_neg q2, Int.mul_one]
                have kb : p < n → 0 ≤ lo * rd (A 100) (48 * d + 8 * x + 1) * rd c10 y ∧ lo * rd (A 100) (48 * d + 8 * x + 1) * rd c10 y ≤ lo * rd (A 100) (48 * d + 8 * x + 1) := fun q => by
                  have z := hmul (by omega) a1.2
                  rw [(hqy q).1]
                  split
                  · rw [Int.mul_zero]; omega
                  · rw [Int.mul_one]; omega
                have kc : p < n → 1 ≤ rd c11 y ∧ rd c11 y ≤ 14348907 := fun q => by
                  have z := hSF q
                  rw [(hqy q).2]
                  split <;> omega
                have hml := hmul (by omega) a1.2
                refine R_s (P := True) (f' := (345, [some (vR 88), some (vI d), some (vI rest), some (vI x), some (vI (48 * d + 8 * x)), some (vI y), v6], [vI (F 19), vI y], LAY (u (u (u (u (u (u (u A 109 l109) 104 c4) 105 c5) 110 c10) 111 c11) 108 w8) 107 w7) (u (u (u (u F 28 Y) 29 ac) 30 mg) 31 lo), 0, 0)) hc146 3 rfl trivial ?_
                refine R_ic (t := 416) hc146 rfl rfl (fun (c1 : F 19 ≤ y) => ?_) (fun (c1 : ¬ (F 19 ≤ y)) => ?_)
                · refine R_s (P := (0 ≤ x ∧ x < ((w7).length : Int)) ∧ inI (rest - (rd w7 x)) ∧ inI (x + 1) ∧ True) (f' := (273, [some (vR 88), some (vI d), some (vI (rest - (rd w7 x))), some (vI (x + 1)), some (vI (48 * d + 8 * x)), some (vI y), v6], [], LAY (u (u (u (u (u (u (u A 109 l109) 104 c4) 105 c5) 110 c10) 111 c11) 108 w8) 107 w7) (u (u (u (u F 28 Y) 29 ac) 30 mg) 31 lo), 0, 0)) hc146 9 rfl ⟨⟨by omega, by omega⟩, (by have ew : rd w7 x = S_le n (A 90) al Q lo i := (by rw [g7, show p = n by omega]; rfl); have z := hleb (by omega) a1.2; unfold inI; omega), ⟨by omega, by omega⟩, trivial⟩ ?_
                  refine R_s (P := True) (f' := (273, [some (vR 88), some (vI d), some (vI (rest - (rd w7 x))), some (vI (x + 1)), some (vI (48 * d + 8 * x)), some (vI y), v6], [], LAY (u (u (u (u (u (u (u A 109 l109) 104 c4) 105 c5) 110 c10) 111 c11) 108 w8) 107 w7) (u (u (u (u F 28 Y) 29 ac) 30 mg) 31 lo), 0, 0)) hc146 0 rfl trivial ?_
                  have ew : rd w7 x = S_le n (A 90) al Q lo i := by
                    rw [g7, show p = n by omega]
                    rfl
                  refine ih (i + 1) _ _ _ _ _ _ _ _ _ _ _ (by omega) hg4 hg5 hg10 hg11 hw7 hw8 ?_ (fun j hj => ?_) (fun q hq9 => ?_) (by omega) (by omega)
                  · rw [ew, hr]
                    simp only [S_rs]
                    rw [if_pos a1]
                  · rw [z7 j hj, show p = n by omega]
                    by_cases e2 : j = i
                    · have a2 : ¬ (rd (Q 0) j = 1 ∧ i + 1 ≤ j) := fun q => by omega
                      rw [if_pos e2, if_neg a2, e2]
                      unfold S_ge
                      rw [if_neg (by omega), if_pos a1.2, if_pos a1.1]
                      rfl
                    · rw [if_neg e2, h7 j hj]
                      by_cases e3 : rd (Q 0) j = 1 ∧ i ≤ j
                      · rw [if_pos e3, if_pos ⟨e3.1, by omega⟩]
                      · rw [if_neg e3, if_neg (fun q => e3 ⟨q.1, by omega⟩)]
                  · rw [z8 q hq9, if_pos (by omega), h8 q hq9]
                    simp only [S_ls]
                    rw [if_pos a1]
                    omega
                · refine R_s (P := inI ((48 * d + 8 * x) + 1) ∧ (0 ≤ (48 * d + 8 * x) + 1 ∧ (48 * d + 8 * x) + 1 < ((A 100).length : Int)) ∧ inL (lo * (rd (A 100) ((48 * d + 8 * x) + 1))) ∧ (0 ≤ y ∧ y < ((c10).length : Int)) ∧ inL ((lo * (rd (A 100) ((48 * d + 8 * x) + 1))) * (rd c10 y)) ∧ (0 ≤ y ∧ y < ((c11).length : Int)) ∧ inL (12 * (rd c11 y)) ∧ (0 ≤ (lo * (rd (A 100) ((48 * d + 8 * x) + 1))) * (rd c10 y) ∧ 0 < 12 * (rd c11 y)) ∧ inI (((lo * (rd (A 100) ((48 * d + 8 * x) + 1))) * (rd c10 y)) / (12 * (rd c11 y))) ∧ (0 ≤ y ∧ y < ((w8).length : Int)) ∧ inI ((rd w8 y) + (((lo * (rd (A 100) ((48 * d + 8 * x) + 1))) * (rd c10 y)) / (12 * (rd c11 y)))) ∧ (0 ≤ y ∧ y < ((w8).length : Int)) ∧ (0 ≤ x ∧ x < ((w7).length : Int)) ∧ inI ((rd w7 x) + (((lo * (rd (A 100) ((48 * d + 8 * x) + 1))) * (rd c10 y)) / (12 * (rd c11 y)))) ∧ (0 ≤ x ∧ x < ((w7).length : Int)) ∧ inI (y + 1) ∧ True) (f' := (339, [some (vR 88), some (vI d), some (vI rest), some (vI x), some (vI (48 * d + 8 * x)), some (vI (y + 1)), some (vI (((lo * (rd (A 100) ((48 * d + 8 * x) + 1))) * (rd c10 y)) / (12 * (rd c11 y))))], [], LAY (u (u (u (u (u (u (u A 109 l109) 104 c4) 105 c5) 110 c10) 111 c11) 108 (wr w8 y ((rd w8 y) + (((lo * (rd (A 100) ((48 * d + 8 * x) + 1))) * (rd c10 y)) / (12 * (rd c11 y)))))) 107 (wr w7 x ((rd w7 x) + (((lo * (rd (A 100) ((48 * d + 8 * x) + 1))) * (rd c10 y)) / (12 * (rd c11 y)))))) (u (u (u (u F 28 Y) 29 ac) 30 mg) 31 lo), 0, 0)) hc146 43 rfl ⟨⟨by omega, by omega⟩, ⟨by omega, by omega⟩, ⟨by omega, by omega⟩, ⟨by omega, by omega⟩, ⟨by omega, by omega⟩, ⟨by omega, by omega⟩, ⟨by omega, by omega⟩, ⟨by omega, by omega⟩, (by have ka1 := ka (by omega); have g81 := g8 (by omega); have ham1 := ham (by omega); unfold inI; omega), ⟨by omega, by omega⟩, (by have ka1 := ka (by omega); have g81 := g8 (by omega); have ham1 := ham (by omega); unfold inI; omega), ⟨by omega, by omega⟩, ⟨by omega, by omega⟩, (by have ka1 := ka (by omega); have g81 := g8 (by omega); have ham1 := ham (by omega); unfold inI; omega), ⟨by omega, by omega⟩, ⟨by omega, by omega⟩, trivial⟩ ?_
                  refine R_s (P := True) (f' := (339, [some (vR 88), some (vI d), some (vI rest), some (vI x), some (vI (48 * d + 8 * x)), some (vI (y + 1)), some (vI (((lo * (rd (A 100) ((48 * d + 8 * x) + 1))) * (rd c10 y)) / (12 * (rd c11 y))))], [], LAY (u (u (u (u (u (u (u A 109 l109) 104 c4) 105 c5) 110 c10) 111 c11) 108 (wr w8 y ((rd w8 y) + (((lo * (rd (A 100) ((48 * d + 8 * x) + 1))) * (rd c10 y)) / (12 * (rd c11 y)))))) 107 (wr w7 x ((rd w7 x) + (((lo * (rd (A 100) ((48 * d + 8 * x) + 1))) * (rd c10 y)) / (12 * (rd c11 y)))))) (u (u (u (u F 28 Y) 29 ac) 30 mg) 31 lo), 0, 0)) hc146 0 rfl trivial ?_
                  have ka1 := ka (by omega)
                  have g81 := g8 (by omega)
                  refine ihp (p + 1) _ _ _ _ (by omega) (by rw [wr_len]; exact hw7) (by rw [wr_len]; exact hw8) (fun j hj => ?_) (fun q hq9 => ?_) (by omega) (by omega)
                  · rw [rd_wr (by omega) (by omega) (by omega)]
                    by_cases e9 : (j : Int) = x
                    · rw [if_pos e9, if_pos (by omega), g7, ka1]
                      rfl
                    · rw [if_neg e9, z7 j hj, if_neg (by omega), if_neg (by omega)]
                  · rw [rd_wr (by omega) (by omega) (by omega)]
                    by_cases e9 : (q : Int) = y
                    · rw [if_pos e9, if_pos (by omega), g81.1, ka1, e9, show q = p by omega]
                    · rw [if_neg e9, z8 q hq9]
                      by_cases e3 : q < p
                      · rw [if_pos e3, if_pos (by omega)]
                      · rw [if_neg e3, if_neg (by omega)]
            refine R_s (P := True) (f' := (339, [some (vR 88), some (vI d), some (vI rest), some (vI x), some (vI (48 * d + 8 * x)), some (vI 0), v6], [], LAY (u (u (u (u (u (u (u A 109 l109) 104 c4) 105 c5) 110 c10) 111 c11) 108 b108) 107 b107) (u (u (u (u F 28 Y) 29 ac) 30 mg) 31 lo), 0, 0)) hc146 0 rfl trivial ?_
            refine lpp (n + 1) 0 _ _ _ _ rfl hb7 hb8 (fun j hj => ?_) (fun q hq9 => by rw [if_neg (by omega)]) (by omega) (by omega)
            split
            · rename_i q
              rw [q, h7 i (by omega), if_pos ⟨a1.2, by omega⟩]
              rfl
            · rfl
  have lp : ∀ (m i : Nat) (x : Int) (v3 : Option AV) (a4 : List Int) (a5 : List Int) (b107 : List Int) (b108 : List Int) (g : Int) (lf : Int), x = (i : Int) → a4.length = 30 → a5.length = 30 → b107.length = 6 → b108.length = 30 → (g = if i = 0 then -1 else mg) → (lf = if i = 0 then Y else S_fx Q so (Y - pm) i) → (∀ j : Nat, j < i → rd b107 j = if rd (Q 0) j = 1 then 0 else S_ge n (A 90) al Q so pm (Y - pm) lo j) → (∀ p : Nat, p < n → rd b108 p = if i = 0 then 0 else if mg = p then pm else 0) → i ≤ e → e + 1 ≤ i + m → R 146 (56, [some (vR 88), some (vI d), some (vI x), v3, none, none, none], [], LAY (u (u (u (u (u A 109 l109) 104 a4) 105 a5) 107 b107) 108 b108) (u (u (u (u F 28 Y) 29 ac) 30 g) 31 lf), 0, 0) (fun r G => r = none ∧ ∃ l104 l105 l107 l108 l109 l110 l111, G = LAY (u (u (u (u (u (u (u A 109 l109) 104 l104) 105 l105) 110 l110) 111 l111) 108 l108) 107 l107) (u (u (u (u F 28 Y) 29 ac) 30 mg) 31 lo) ∧ l104.length = 30 ∧ l105.length = 30 ∧ l107.length = 6 ∧ l108.length = 30 ∧ l109.length = 30 ∧ l110.length = 30 ∧ l111.length = 30 ∧ (∀ j : Nat, j < e → rd l107 j = S_te n (A 90) al Q so pm (Y - pm) lo e j) ∧ ∀ p : Nat, p < n → rd l108 p = (if mg = p then pm else 0) + S_ls n (A 90) al Q so lo e p) := by
    intro m
    induction m with
    | zero =>
      intro i x v3 a4 a5 b107 b108 g lf ex ha4 ha5 hb7 hb8 hg hlf h7 h8 hi hm
      exact absurd hm (by omega)
    | succ m ih =>
      intro i x v3 a4 a5 b107 b108 g lf ex ha4 ha5 hb7 hb8 hg hlf h7 h8 hi hm
      have m0 : i < e → rd (A 100) (48 * d + 8 * x) = rd (Q 0) i := fun q => by rw [ex]; exact (hMi i q).1
      have m1 : i < e → rd (Q 0) i ≠ 3 → rd (A 100) (48 * d + 8 * x + 1) = rd (Q 1) i := fun q q1 => by
        rw [ex]
        exact (hMi i q).2.1.resolve_left q1
      have m2 : i < e → rd (Q 0) i = 2 → rd (A 100) (48 * d + 8 * x + 2) = rd (Q 2) i ∧ 0 ≤ rd (Q 2) i ∧ rd (Q 2) i < n := fun q q1 => by rw [ex]; exact ⟨(hMi i q).2.2.1 (.inr q1), (hQ.2.2.2 i q).2.2.2.2.1 (.inr q1)⟩
      have hk : i < e → (rd (Q 0) i = 0 ∨ rd (Q 0) i = 1 ∨ rd (Q 0) i = 2 ∨ rd (Q 0) i = 3) ∧ (rd (Q 0) i = 2 → i = 0) ∧ (rd (Q 0) i = 2 → rd (Q 1) i ≤ 100) ∧ (rd (Q 0) i = 3 ∨ (0 ≤ rd (Q 1) i ∧ rd (Q 1) i ≤ 9999)) := fun q => ⟨(hQ.2.2.2 i q).1, fun q1 => ((hQ.2.2.2 i q).2.2.1 q1).1, fun q1 => ((hQ.2.2.2 i q).2.2.1 q1).2, (hQ.2.2.2 i q).2.2.2.1⟩
      have hs1 := hs01 i
      have nm : ¬ (rd (Q 0) i = 2 ∧ so i = 1) → i = 0 → mg = -1 ∧ pm = 0 := fun q q0 => by
        have e1 : mg = -1 := by
          rw [hmg]
          unfold S_mg
          rw [if_neg (fun z => q (by rw [q0]; exact z))]
        exact ⟨e1, by rw [hpm, e1]; rfl⟩
      have lfq : ¬ (rd (Q 0) i = 2 ∧ so i = 1) → lf = S_fx Q so (Y - pm) i := fun q => by
        rw [hlf]
        split
        · rename_i q0
          have z := nm q q0
          rw [q0]
          simp only [S_fx]
          omega
        · rfl
      have fxb := S_fx_bd (Q := Q) (so := so) (r := Y - pm) (by omega) i (fun j hj => hNf j (by omega))
      have lfb : 0 ≤ lf ∧ lf ≤ Y := by
        rw [hlf]
        split <;> omega
      have hmul : i < e → rd (Q 0) i = 2 → 0 ≤ Y * rd (A 100) (48 * d + 8 * x + 1) ∧ Y * rd (A 100) (48 * d + 8 * x + 1) ≤ Y * 100 := fun q q1 => by
        have z := hk q
        rw [m1 q (by omega)]
        exact ⟨Int.mul_nonneg hY.1 (by omega), Int.mul_le_mul_of_nonneg_left (by omega) hY.1⟩
      refine R_s (P := (0 ≤ d ∧ d < ((A 99).length : Int)) ∧ True) (f' := (63, [some (vR 88), some (vI d), some (vI x), v3, none, none, none], [vI (rd (A 99) d), vI x], LAY (u (u (u (u (u A 109 l109) 104 a4) 105 a5) 107 b107) 108 b108) (u (u (u (u F 28 Y) 29 ac) 30 g) 31 lf), 0, 0)) hc146 5 rfl ⟨⟨by omega, by omega⟩, trivial⟩ ?_
      refine R_ic (t := 266) hc146 rfl rfl (fun (c1 : rd (A 99) d ≤ x) => ?_) (fun (c1 : ¬ (rd (A 99) d ≤ x)) => ?_)
      · refine R_s (P := True) (f' := (273, [some (vR 88), some (vI d), some (vI lf), some (vI 0), none, none, none], [], LAY (u (u (u (u (u A 109 l109) 104 a4) 105 a5) 107 b107) 108 b108) (u (u (u (u F 28 Y) 29 ac) 30 g) 31 lf), 0, 0)) hc146 5 rfl trivial ?_
        have eg : g = mg := by rw [hg, if_neg (by omega)]
        have el : lf = lo := by rw [hlf, if_neg (by omega), hlo, show i = e by omega]
        rw [eg, el]
        refine R_s (P := True) (f' := (273, [some (vR 88), some (vI d), some (vI lo), some (vI 0), none, none, none], [], LAY (u (u (u (u (u (u (u A 109 l109) 104 a4) 105 a5) 110 (A 110)) 111 (A 111)) 108 b108) 107 b107) (u (u (u (u F 28 Y) 29 ac) 30 mg) 31 lo), 0, 0)) hc146 0 rfl trivial ?_
        refine lp2 (e + 1) 0 _ _ _ _ _ _ _ _ _ _ _ rfl ha4 ha5 h110 h111 hb7 hb8 rfl (fun j hj => ?_) (fun p hp => ?_) (by omega) (by omega)
        · rw [h7 j (by omega)]
          by_cases e1 : rd (Q 0) j = 1
          · rw [if_pos e1, if_pos ⟨e1, by omega⟩]
          · rw [if_neg e1, if_neg (fun z => e1 z.1)]
        · rw [h8 p hp, if_neg (by omega)]
          simp only [S_ls]
          omega
      · refine R_s (P := inI (48 * d) ∧ inI (8 * x) ∧ inI ((48 * d) + (8 * x)) ∧ (0 ≤ x ∧ x < ((b107).length : Int)) ∧ (0 ≤ (48 * d) + (8 * x) ∧ (48 * d) + (8 * x) < ((A 100).length : Int)) ∧ True) (f' := (90, [some (vR 88), some (vI d), some (vI x), some (vI ((48 * d) + (8 * x))), none, none, none], [vI 2, vI (rd (A 100) ((48 * d) + (8 * x)))], LAY (u (u (u (u (u A 109 l109) 104 a4) 105 a5) 108 b108) 107 (wr b107 x 0)) (u (u (u (u F 28 Y) 29 ac) 30 g) 31 lf), 0, 0)) hc146 18 rfl ⟨⟨by omega, by omega⟩, ⟨by omega, by omega⟩, ⟨by omega, by omega⟩, ⟨by omega, by omega⟩, ⟨by omega, by omega⟩, trivial⟩ ?_
        refine R_ic (t := 192) hc146 rfl rfl (fun (c2 : ¬ rd (A 100) ((48 * d) + (8 * x)) = 2) => ?_) (fun (c2 : ¬ (¬ rd (A 100) ((48 * d) + (8 * x)) = 2)) => ?_)
        · refine R_s (P := (0 ≤ (48 * d) + (8 * x) ∧ (48 * d) + (8 * x) < ((A 100).length : Int)) ∧ True) (f' := (198, [some (vR 88), some (vI d), some (vI x), some (vI ((48 * d) + (8 * x))), none, none, none], [vI (rd (A 100) ((48 * d) + (8 * x)))], LAY (u (u (u (u (u A 109 l109) 104 a4) 105 a5) 108 b108) 107 (wr b107 x 0)) (u (u (u (u F 28 Y) 29 ac) 30 g) 31 lf), 0, 0)) hc146 4 rfl ⟨⟨by omega, by omega⟩, trivial⟩ ?_
          refine R_if (t := 260) hc146 rfl rfl (fun (c3 : ¬ rd (A 100) ((48 * d) + (8 * x)) = 0) => ?_) (fun (c3 : ¬ (¬ rd (A 100) ((48 * d) + (8 * x)) = 0)) => ?_)
          · refine R_s (P := inI (x + 1) ∧ True) (f' := (56, [some (vR 88), some (vI d), some (vI (x + 1)), some (vI ((48 * d) + (8 * x))), none, none, none], [], LAY (u (u (u (u (u A 109 l109) 104 a4) 105 a5) 108 b108) 107 (wr b107 x 0)) (u (u (u (u F 28 Y) 29 ac) 30 g) 31 lf), 0, 0)) hc146 2 rfl ⟨⟨by omega, by omega⟩, trivial⟩ ?_
            have a1 : ¬ (rd (Q 0) i = 2 ∧ so i = 1) := fun z => by omega
            refine R_s (P := True) (f' := (56, [some (vR 88), some (vI d), some (vI (x + 1)), some (vI ((48 * d) + (8 * x))), none, none, none], [], LAY (u (u (u (u (u A 109 l109) 104 a4) 105 a5) 107 (wr b107 x 0)) 108 b108) (u (u (u (u F 28 Y) 29 ac) 30 g) 31 lf), 0, 0)) hc146 0 rfl trivial ?_
            refine ih (i + 1) _ _ _ _ _ _ _ _ (by omega) ha4 ha5 (by (try simp only [wr_len]); omega) (by (try simp only [wr_len]); omega) ?_ ?_ (fun j hj => ?_) (fun p hp => ?_) (by omega) (by omega)
            · rw [if_neg (by omega), hg]
              split
              · exact (nm a1 (by omega)).1.symm
              · rfl
            · rw [if_neg (by omega), lfq a1]
              simp only [S_fx]
              rw [show S_fe Q so (S_fx Q so (Y - pm) i) i = 0 by (unfold S_fe; rw [if_neg (fun z => by omega)])]
              omega
            · rw [rd_wr (by omega) (by omega) (by omega)]
              by_cases e9 : (j : Int) = x
              · have e2 : j = i := by omega
                rw [if_pos e9, e2]
                by_cases e1 : rd (Q 0) i = 1
                · rw [if_pos e1]
                · rw [if_neg e1]
                  unfold S_ge
                  rw [if_neg e1]
                  by_cases e3 : rd (Q 0) i = 2
                  · rw [if_pos e3, (nm a1 ((hk (by omega)).2.1 e3)).2]
                  · rw [if_neg e3]
                    unfold S_fe
                    rw [if_neg (fun z => by omega)]
              · rw [if_neg e9]
                exact h7 j (by omega)
            · rw [h8 p hp, show (if i + 1 = 0 then (0 : Int) else if mg = p then pm else 0) = if mg = p then pm else 0 from if_neg (by omega)]
              split
              · rename_i q0
                have z := nm a1 q0
                rw [z.2]
                split <;> rfl
              · rfl
          · refine R_s (P := True) (f' := (203, [some (vR 88), some (vI d), some (vI x), some (vI ((48 * d) + (8 * x))), none, none, none], [vI ((48 * d) + (8 * x)), vR 88], LAY (u (u (u (u (u A 109 l109) 104 a4) 105 a5) 108 b108) 107 (wr b107 x 0)) (u (u (u (u F 28 Y) 29 ac) 30 g) 31 lf), 0, 0)) hc146 2 rfl trivial ?_
            refine R_cv hc146 rfl rfl (l_isSo (A := (u (u (u (u (u A 109 l109) 104 a4) 105 a5) 108 b108) 107 (wr b107 x 0))) (F := (u (u (u (u F 28 Y) 29 ac) 30 g) 31 lf)) hn hn30 hQ hM (i := i) (yr := yr) (Y := Y) (ac := ac) (by rw [ex]) (by omega) h18 rfl rfl) (fun r G9 hp9 => ?_)
            rw [eso] at hp9
            obtain ⟨rfl, rfl⟩ := hp9
            refine R_s (f' := (206, [some (vR 88), some (vI d), some (vI x), some (vI ((48 * d) + (8 * x))), none, none, none], [vI (so i)], LAY (u (u (u (u (u A 109 l109) 104 a4) 105 a5) 108 b108) 107 (wr b107 x 0)) (u (u (u (u F 28 Y) 29 ac) 30 g) 31 lf), 0, 0)) hc146 0 rfl trivial ?_
            refine R_if (t := 260) hc146 rfl rfl (fun (c4 : so i = 0) => ?_) (fun (c4 : ¬ (so i = 0)) => ?_)
            · refine R_s (P := inI (x + 1) ∧ True) (f' := (56, [some (vR 88), some (vI d), some (vI (x + 1)), some (vI ((48 * d) + (8 * x))), none, none, none], [], LAY (u (u (u (u (u A 109 l109) 104 a4) 105 a5) 108 b108) 107 (wr b107 x 0)) (u (u (u (u F 28 Y) 29 ac) 30 g) 31 lf), 0, 0)) hc146 2 rfl ⟨⟨by omega, by omega⟩, trivial⟩ ?_
              have a1 : ¬ (rd (Q 0) i = 2 ∧ so i = 1) := fun z => by omega
              refine R_s (P := True) (f' := (56, [some (vR 88), some (vI d), some (vI (x + 1)), some (vI ((48 * d) + (8 * x))), none, none, none], [], LAY (u (u (u (u (u A 109 l109) 104 a4) 105 a5) 107 (wr b107 x 0)) 108 b108) (u (u (u (u F 28 Y) 29 ac) 30 g) 31 lf), 0, 0)) hc146 0 rfl trivial ?_
              refine ih (i + 1) _ _ _ _ _ _ _ _ (by omega) ha4 ha5 (by (try simp only [wr_len]); omega) (by (try simp only [wr_len]); omega) ?_ ?_ (fun j hj => ?_) (fun p hp => ?_) (by omega) (by omega)
              · rw [if_neg (by omega), hg]
                split
                · exact (nm a1 (by omega)).1.symm
                · rfl
              · rw [if_neg (by omega), lfq a1]
                simp only [S_fx]
                rw [show S_fe Q so (S_fx Q so (Y - pm) i) i = 0 by (unfold S_fe; rw [if_neg (fun z => by omega)])]
                omega
              · rw [rd_wr (by omega) (by omega) (by omega)]
                by_cases e9 : (j : Int) = x
                · have e2 : j = i := by omega
                  rw [if_pos e9, e2]
                  by_cases e1 : rd (Q 0) i = 1
                  · rw [if_pos e1]
                  · rw [if_neg e1]
                    unfold S_ge
                    rw [if_neg e1]
                    by_cases e3 : rd (Q 0) i = 2
                    · rw [if_pos e3, (nm a1 ((hk (by omega)).2.1 e3)).2]
                    · rw [if_neg e3]
                      unfold S_fe
                      rw [if_neg (fun z => by omega)]
                · rw [if_neg e9]
                  exact h7 j (by omega)
              · rw [h8 p hp, show (if i + 1 = 0 then (0 : Int) else if mg = p then pm else 0) = if mg = p then pm else 0 from if_neg (by omega)]
                split
                · rename_i q0
                  have z := nm a1 q0
                  rw [z.2]
                  split <;> rfl
                · rfl
            · refine R_s (P := inI (((48 * d) + (8 * x)) + 1) ∧ (0 ≤ ((48 * d) + (8 * x)) + 1 ∧ ((48 * d) + (8 * x)) + 1 < ((A 100).length : Int)) ∧ True) (f' := (226, [some (vR 88), some (vI d), some (vI x), some (vI ((48 * d) + (8 * x))), none, none, none], [vI lf, vI (rd (A 100) (((48 * d) + (8 * x)) + 1)), vI x, vR 107], LAY (u (u (u (u (u A 109 l109) 104 a4) 105 a5) 108 b108) 107 (wr b107 x 0)) (u (u (u (u F 28 Y) 29 ac) 30 g) 31 lf), 0, 0)) hc146 11 rfl ⟨⟨by omega, by omega⟩, ⟨by omega, by omega⟩, trivial⟩ ?_
              refine R_ic (t := 240) hc146 rfl rfl (fun (c5 : lf ≤ rd (A 100) (((48 * d) + (8 * x)) + 1)) => ?_) (fun (c5 : ¬ (lf ≤ rd (A 100) (((48 * d) + (8 * x)) + 1))) => ?_)
              · refine R_s (P := (0 ≤ x ∧ x < ((wr b107 x 0).length : Int)) ∧ (0 ≤ x ∧ x < ((wr (wr b107 x 0) x lf).length : Int)) ∧ inI (lf - (rd (wr (wr b107 x 0) x lf) x)) ∧ inI (x + 1) ∧ True) (f' := (56, [some (vR 88), some (vI d), some (vI (x + 1)), some (vI ((48 * d) + (8 * x))), none, none, none], [], LAY (u (u (u (u (u A 109 l109) 104 a4) 105 a5) 108 b108) 107 (wr (wr b107 x 0) x lf)) (u (u (u (u F 28 Y) 29 ac) 30 g) 31 (lf - (rd (wr (wr b107 x 0) x lf) x))), 0, 0)) hc146 14 rfl ⟨⟨by omega, by simp only [wr_len]; omega⟩, ⟨by omega, by simp only [wr_len]; omega⟩, (by rw [rd_wr_s (l := wr b107 x 0) (by omega) (by rw [wr_len]; omega)]; unfold inI; omega), ⟨by omega, by omega⟩, trivial⟩ ?_
                have a1 : ¬ (rd (Q 0) i = 2 ∧ so i = 1) := fun z => by omega
                have l1 := lfq a1
                have kv : S_fe Q so (S_fx Q so (Y - pm) i) i = lf := by
                  have z := m1 (by omega) (by omega)
                  unfold S_fe
                  rw [if_pos ⟨by omega, by omega⟩]
                  split <;> omega
                refine R_s (P := True) (f' := (56, [some (vR 88), some (vI d), some (vI (x + 1)), some (vI ((48 * d) + (8 * x))), none, none, none], [], LAY (u (u (u (u (u A 109 l109) 104 a4) 105 a5) 107 (wr (wr b107 x 0) x lf)) 108 b108) (u (u (u (u F 28 Y) 29 ac) 30 g) 31 (lf - (rd (wr (wr b107 x 0) x lf) x))), 0, 0)) hc146 0 rfl trivial ?_
                refine ih (i + 1) _ _ _ _ _ _ _ _ (by omega) ha4 ha5 (by (try simp only [wr_len]); omega) (by (try simp only [wr_len]); omega) ?_ ?_ (fun j hj => ?_) (fun p hp => ?_) (by omega) (by omega)
                · rw [if_neg (by omega), hg]
                  split
                  · exact (nm a1 (by omega)).1.symm
                  · rfl
                · rw [if_neg (by omega), rd_wr_s (l := wr b107 x 0) (by omega) (by rw [wr_len]; omega)]
                  simp only [S_fx]
                  rw [kv]
                  omega
                · rw [rd_wr (by omega) (by rw [wr_len]; omega) (by omega)]
                  by_cases e9 : (j : Int) = x
                  · have e2 : j = i := by omega
                    rw [if_pos e9, e2, if_neg (by omega)]
                    unfold S_ge
                    rw [if_neg (by omega), if_neg (by omega), kv]
                  · rw [if_neg e9, rd_wr_n (by omega) (by omega) e9]
                    exact h7 j (by omega)
                · rw [h8 p hp, show (if i + 1 = 0 then (0 : Int) else if mg = p then pm else 0) = if mg = p then pm else 0 from if_neg (by omega)]
                  split
                  · rename_i q0
                    have z := nm a1 q0
                    rw [z.2]
                    split <;> rfl
                  · rfl
              · refine R_s (P := inI (((48 * d) + (8 * x)) + 1) ∧ (0 ≤ ((48 * d) + (8 * x)) + 1 ∧ ((48 * d) + (8 * x)) + 1 < ((A 100).length : Int)) ∧ (0 ≤ x ∧ x < ((wr b107 x 0).length : Int)) ∧ (0 ≤ x ∧ x < ((wr (wr b107 x 0) x (rd (A 100) (((48 * d) + (8 * x)) + 1))).length : Int)) ∧ inI (lf - (rd (wr (wr b107 x 0) x (rd (A 100) (((48 * d) + (8 * x)) + 1))) x)) ∧ inI (x + 1) ∧ True) (f' := (56, [some (vR 88), some (vI d), some (vI (x + 1)), some (vI ((48 * d) + (8 * x))), none, none, none], [], LAY (u (u (u (u (u A 109 l109) 104 a4) 105 a5) 108 b108) 107 (wr (wr b107 x 0) x (rd (A 100) (((48 * d) + (8 * x)) + 1)))) (u (u (u (u F 28 Y) 29 ac) 30 g) 31 (lf - (rd (wr (wr b107 x 0) x (rd (A 100) (((48 * d) + (8 * x)) + 1))) x))), 0, 0)) hc146 19 rfl ⟨⟨by omega, by omega⟩, ⟨by omega, by omega⟩, ⟨by omega, by simp only [wr_len]; omega⟩, ⟨by omega, by simp only [wr_len]; omega⟩, (by rw [rd_wr_s (l := wr b107 x 0) (by omega) (by rw [wr_len]; omega)]; unfold inI; omega), ⟨by omega, by omega⟩, trivial⟩ ?_
                have a1 : ¬ (rd (Q 0) i = 2 ∧ so i = 1) := fun z => by omega
                have l1 := lfq a1
                have kv : S_fe Q so (S_fx Q so (Y - pm) i) i = (rd (A 100) (((48 * d) + (8 * x)) + 1)) := by
                  have z := m1 (by omega) (by omega)
                  unfold S_fe
                  rw [if_pos ⟨by omega, by omega⟩]
                  split <;> omega
                refine R_s (P := True) (f' := (56, [some (vR 88), some (vI d), some (vI (x + 1)), some (vI ((48 * d) + (8 * x))), none, none, none], [], LAY (u (u (u (u (u A 109 l109) 104 a4) 105 a5) 107 (wr (wr b107 x 0) x (rd (A 100) (((48 * d) + (8 * x)) + 1)))) 108 b108) (u (u (u (u F 28 Y) 29 ac) 30 g) 31 (lf - (rd (wr (wr b107 x 0) x (rd (A 100) (((48 * d) + (8 * x)) + 1))) x))), 0, 0)) hc146 0 rfl trivial ?_
                refine ih (i + 1) _ _ _ _ _ _ _ _ (by omega) ha4 ha5 (by (try simp only [wr_len]); omega) (by (try simp only [wr_len]); omega) ?_ ?_ (fun j hj => ?_) (fun p hp => ?_) (by omega) (by omega)
                · rw [if_neg (by omega), hg]
                  split
                  · exact (nm a1 (by omega)).1.symm
                  · rfl
                · rw [if_neg (by omega), rd_wr_s (l := wr b107 x 0) (by omega) (by rw [wr_len]; omega)]
                  simp only [S_fx]
                  rw [kv]
                  omega
                · rw [rd_wr (by omega) (by rw [wr_len]; omega) (by omega)]
                  by_cases e9 : (j : Int) = x
                  · have e2 : j = i := by omega
                    rw [if_pos e9, e2, if_neg (by omega)]
                    unfold S_ge
                    rw [if_neg (by omega), if_neg (by omega), kv]
                  · rw [if_neg e9, rd_wr_n (by omega) (by omega) e9]
                    exact h7 j (by omega)
                · rw [h8 p hp, show (if i + 1 = 0 then (0 : Int) else if mg = p then pm else 0) = if mg = p then pm else 0 from if_neg (by omega)]
                  split
                  · rename_i q0
                    have z := nm a1 q0
                    rw [z.2]
                    split <;> rfl
                  · rfl
        · refine R_s (P := True) (f' := (95, [some (vR 88), some (vI d), some (vI x), some (vI ((48 * d) + (8 * x))), none, none, none], [vI ((48 * d) + (8 * x)), vR 88], LAY (u (u (u (u (u A 109 l109) 104 a4) 105 a5) 108 b108) 107 (wr b107 x 0)) (u (u (u (u F 28 Y) 29 ac) 30 g) 31 lf), 0, 0)) hc146 2 rfl trivial ?_
          refine R_cv hc146 rfl rfl (l_isSo (A := (u (u (u (u (u A 109 l109) 104 a4) 105 a5) 108 b108) 107 (wr b107 x 0))) (F := (u (u (u (u F 28 Y) 29 ac) 30 g) 31 lf)) hn hn30 hQ hM (i := i) (yr := yr) (Y := Y) (ac := ac) (by rw [ex]) (by omega) h18 rfl rfl) (fun r G9 hp9 => ?_)
          rw [eso] at hp9
          obtain ⟨rfl, rfl⟩ := hp9
          refine R_s (f' := (98, [some (vR 88), some (vI d), some (vI x), some (vI ((48 * d) + (8 * x))), none, none, none], [vI (so i)], LAY (u (u (u (u (u A 109 l109) 104 a4) 105 a5) 108 b108) 107 (wr b107 x 0)) (u (u (u (u F 28 Y) 29 ac) 30 g) 31 lf), 0, 0)) hc146 0 rfl trivial ?_
          refine R_if (t := 192) hc146 rfl rfl (fun (c6 : so i = 0) => ?_) (fun (c6 : ¬ (so i = 0)) => ?_)
          · refine R_s (P := (0 ≤ (48 * d) + (8 * x) ∧ (48 * d) + (8 * x) < ((A 100).length : Int)) ∧ True) (f' := (198, [some (vR 88), some (vI d), some (vI x), some (vI ((48 * d) + (8 * x))), none, none, none], [vI (rd (A 100) ((48 * d) + (8 * x)))], LAY (u (u (u (u (u A 109 l109) 104 a4) 105 a5) 108 b108) 107 (wr b107 x 0)) (u (u (u (u F 28 Y) 29 ac) 30 g) 31 lf), 0, 0)) hc146 4 rfl ⟨⟨by omega, by omega⟩, trivial⟩ ?_
            refine R_if (t := 260) hc146 rfl rfl (fun (_ : ¬ rd (A 100) ((48 * d) + (8 * x)) = 0) => ?_) (fun (z : ¬ (¬ rd (A 100) ((48 * d) + (8 * x)) = 0)) => absurd (show ¬ rd (A 100) ((48 * d) + (8 * x)) = 0 by omega) z)
            refine R_s (P := inI (x + 1) ∧ True) (f' := (56, [some (vR 88), some (vI d), some (vI (x + 1)), some (vI ((48 * d) + (8 * x))), none, none, none], [], LAY (u (u (u (u (u A 109 l109) 104 a4) 105 a5) 108 b108) 107 (wr b107 x 0)) (u (u (u (u F 28 Y) 29 ac) 30 g) 31 lf), 0, 0)) hc146 2 rfl ⟨⟨by omega, by omega⟩, trivial⟩ ?_
            have a1 : ¬ (rd (Q 0) i = 2 ∧ so i = 1) := fun z => by omega
            refine R_s (P := True) (f' := (56, [some (vR 88), some (vI d), some (vI (x + 1)), some (vI ((48 * d) + (8 * x))), none, none, none], [], LAY (u (u (u (u (u A 109 l109) 104 a4) 105 a5) 107 (wr b107 x 0)) 108 b108) (u (u (u (u F 28 Y) 29 ac) 30 g) 31 lf), 0, 0)) hc146 0 rfl trivial ?_
            refine ih (i + 1) _ _ _ _ _ _ _ _ (by omega) ha4 ha5 (by (try simp only [wr_len]); omega) (by (try simp only [wr_len]); omega) ?_ ?_ (fun j hj => ?_) (fun p hp => ?_) (by omega) (by omega)
            · rw [if_neg (by omega), hg]
              split
              · exact (nm a1 (by omega)).1.symm
              · rfl
            · rw [if_neg (by omega), lfq a1]
              simp only [S_fx]
              rw [show S_fe Q so (S_fx Q so (Y - pm) i) i = 0 by (unfold S_fe; rw [if_neg (fun z => by omega)])]
              omega
            · rw [rd_wr (by omega) (by omega) (by omega)]
              by_cases e9 : (j : Int) = x
              · have e2 : j = i := by omega
                rw [if_pos e9, e2]
                by_cases e1 : rd (Q 0) i = 1
                · rw [if_pos e1]
                · rw [if_neg e1]
                  unfold S_ge
                  rw [if_neg e1]
                  by_cases e3 : rd (Q 0) i = 2
                  · rw [if_pos e3, (nm a1 ((hk (by omega)).2.1 e3)).2]
                  · rw [if_neg e3]
                    unfold S_fe
                    rw [if_neg (fun z => by omega)]
              · rw [if_neg e9]
                exact h7 j (by omega)
            · rw [h8 p hp, show (if i + 1 = 0 then (0 : Int) else if mg = p then pm else 0) = if mg = p then pm else 0 from if_neg (by omega)]
              split
              · rename_i q0
                have z := nm a1 q0
                rw [z.2]
                split <;> rfl
              · rfl
          · refine R_s (P := inI (((48 * d) + (8 * x)) + 2) ∧ (0 ≤ ((48 * d) + (8 * x)) + 2 ∧ ((48 * d) + (8 * x)) + 2 < ((A 100).length : Int)) ∧ True) (f' := (111, [some (vR 88), some (vI d), some (vI x), some (vI ((48 * d) + (8 * x))), none, none, none], [vI (rd (A 100) (((48 * d) + (8 * x)) + 2)), vR 88, vR 88], LAY (u (u (u (u (u A 109 l109) 104 a4) 105 a5) 108 b108) 107 (wr b107 x 0)) (u (u (u (u F 28 Y) 29 ac) 30 g) 31 lf), 0, 0)) hc146 8 rfl ⟨⟨by omega, by omega⟩, ⟨by omega, by omega⟩, trivial⟩ ?_
            refine R_cv hc146 rfl rfl (l_managerOf (A := (u (u (u (u (u A 109 l109) 104 a4) 105 a5) 108 b108) 107 (wr b107 x 0))) (F := (u (u (u (u F 28 Y) 29 ac) 30 g) 31 lf)) hn hn30 h91 h92 h93 h94 hU hTk hal hT h90 (ro := (rd (Q 2) i).toNat) (by have := m2 (by omega) (by omega); omega) (by have := m2 (by omega) (by omega); omega) ha4 ha5) (fun r G9 hp9 => ?_)
            obtain ⟨e1, m4, m5, rfl, hm4, hm5, hf0⟩ := hp9
            have i0 : i = 0 := (hk (by omega)).2.1 (by omega)
            have z0 : rd (Q 0) i = 2 ∧ so i = 1 := ⟨by omega, by omega⟩
            have hm2 : mg = fb (fun p => rq (A 90) 0 (rd (Q 2) i).toNat p * al p) (A 91) n := by
              rw [hmg]
              unfold S_mg
              have z1 := z0
              rw [i0] at z1
              have z2 : rd (Q 0) 0 = 2 ∧ so 0 = 1 := z1
              rw [i0, if_pos z2]
              rfl
            have hbd : -1 ≤ mg ∧ mg < n := by
              rw [hm2]
              exact fb_bd _ _ _
            have e3 : r = some (vI mg) := by
              rw [hm2]
              exact e1
            clear e1
            subst e3
            have l0 : lf = Y := by rw [hlf, if_pos i0]
            have f0 : S_fx Q so (Y - pm) i = Y - pm := by
              rw [i0]
              rfl
            have e0 : S_fe Q so (Y - pm) i = 0 := by
              unfold S_fe
              rw [if_neg (fun z => by omega)]
            have m10 : rd (A 100) (48 * d + 8 * x + 1) = rd (Q 1) 0 := by
              have z := m1 (by omega) (by omega)
              rw [i0] at z
              exact z
            have z8 : 0 ≤ mg → rd b108 mg = 0 := fun q => by
              have z := h8 mg.toNat (by omega)
              rw [show ((mg.toNat : Nat) : Int) = mg by omega, if_pos i0] at z
              exact z
            have pz : mg = -1 → pm = 0 := fun q => by
              rw [hpm]
              unfold S_pm
              rw [if_pos q]
            have pv : ¬ mg = -1 → Y * rd (A 100) (48 * d + 8 * x + 1) / 100 = pm := fun q => by
              rw [hpm]
              unfold S_pm
              rw [if_neg q, m10]
            refine R_s (f' := (114, [some (vR 88), some (vI d), some (vI x), some (vI ((48 * d) + (8 * x))), none, none, none], [vI mg, vR 88], LAY (u (u (u (u (u A 109 l109) 108 b108) 107 (wr b107 x 0)) 104 m4) 105 m5) (u (u (u (u F 28 Y) 29 ac) 30 g) 31 lf), 0, 0)) hc146 0 rfl trivial ?_
            refine R_s (P := True) (f' := (127, [some (vR 88), some (vI d), some (vI x), some (vI ((48 * d) + (8 * x))), none, none, none], [vI (-1), vI mg, vI x, vR 107], LAY (u (u (u (u (u A 109 l109) 108 b108) 107 (wr b107 x 0)) 104 m4) 105 m5) (u (u (u (u F 28 Y) 29 ac) 31 lf) 30 mg), 0, 0)) hc146 7 rfl trivial ?_
            refine R_ic (t := 134) hc146 rfl rfl (fun (c8 : ¬ mg = (-1)) => ?_) (fun (c8 : ¬ (¬ mg = (-1))) => ?_)
            · refine R_s (P := inI (((48 * d) + (8 * x)) + 1) ∧ (0 ≤ ((48 * d) + (8 * x)) + 1 ∧ ((48 * d) + (8 * x)) + 1 < ((A 100).length : Int)) ∧ inI (Y * (rd (A 100) (((48 * d) + (8 * x)) + 1))) ∧ (0 ≤ Y * (rd (A 100) (((48 * d) + (8 * x)) + 1)) ∧ 0 < 100) ∧ (0 ≤ x ∧ x < ((wr b107 x 0).length : Int)) ∧ (0 ≤ x ∧ x < ((wr (wr b107 x 0) x ((Y * (rd (A 100) (((48 * d) + (8 * x)) + 1))) / 100)).length : Int)) ∧ inI (lf - (rd (wr (wr b107 x 0) x ((Y * (rd (A 100) (((48 * d) + (8 * x)) + 1))) / 100)) x)) ∧ True) (f' := (171, [some (vR 88), some (vI d), some (vI x), some (vI ((48 * d) + (8 * x))), none, none, none], [vI (-1), vI mg], LAY (u (u (u (u (u A 109 l109) 108 b108) 104 m4) 105 m5) 107 (wr (wr b107 x 0) x ((Y * (rd (A 100) (((48 * d) + (8 * x)) + 1))) / 100))) (u (u (u (u F 28 Y) 29 ac) 30 mg) 31 (lf - (rd (wr (wr b107 x 0) x ((Y * (rd (A 100) (((48 * d) + (8 * x)) + 1))) / 100)) x))), 0, 0)) hc146 24 rfl ⟨⟨by omega, by omega⟩, ⟨by omega, by omega⟩, ⟨by omega, by omega⟩, ⟨by omega, by omega⟩, ⟨by omega, by simp only [wr_len]; omega⟩, ⟨by omega, by simp only [wr_len]; omega⟩, (by rw [rd_wr_s (l := wr b107 x 0) (by omega) (by rw [wr_len]; omega)]; have q1 := hmul; have q2 := z8; have q3 := pv; have q4 := pz; unfold inI; omega), trivial⟩ ?_
              refine R_ic (t := 192) hc146 rfl rfl (fun (z : mg = (-1)) => absurd z (by omega)) (fun (_ : ¬ (mg = (-1))) => ?_)
              refine R_s (P := (0 ≤ mg ∧ mg < ((b108).length : Int)) ∧ (0 ≤ x ∧ x < ((wr (wr b107 x 0) x ((Y * (rd (A 100) (((48 * d) + (8 * x)) + 1))) / 100)).length : Int)) ∧ inI ((rd b108 mg) + (rd (wr (wr b107 x 0) x ((Y * (rd (A 100) (((48 * d) + (8 * x)) + 1))) / 100)) x)) ∧ (0 ≤ mg ∧ mg < ((b108).length : Int)) ∧ (0 ≤ (48 * d) + (8 * x) ∧ (48 * d) + (8 * x) < ((A 100).length : Int)) ∧ True) (f' := (198, [some (vR 88), some (vI d), some (vI x), some (vI ((48 * d) + (8 * x))), none, none, none], [vI (rd (A 100) ((48 * d) + (8 * x)))], LAY (u (u (u (u (u A 109 l109) 104 m4) 105 m5) 107 (wr (wr b107 x 0) x ((Y * (rd (A 100) (((48 * d) + (8 * x)) + 1))) / 100))) 108 (wr b108 mg ((rd b108 mg) + (rd (wr (wr b107 x 0) x ((Y * (rd (A 100) (((48 * d) + (8 * x)) + 1))) / 100)) x)))) (u (u (u (u F 28 Y) 29 ac) 30 mg) 31 (lf - (rd (wr (wr b107 x 0) x ((Y * (rd (A 100) (((48 * d) + (8 * x)) + 1))) / 100)) x))), 0, 0)) hc146 16 rfl ⟨⟨by omega, by omega⟩, ⟨by omega, by simp only [wr_len]; omega⟩, (by rw [rd_wr_s (l := wr b107 x 0) (by omega) (by rw [wr_len]; omega)]; have q1 := hmul; have q2 := z8; have q3 := pv; have q4 := pz; unfold inI; omega), ⟨by omega, by omega⟩, ⟨by omega, by omega⟩, trivial⟩ ?_
              refine R_if (t := 260) hc146 rfl rfl (fun (_ : ¬ rd (A 100) ((48 * d) + (8 * x)) = 0) => ?_) (fun (z : ¬ (¬ rd (A 100) ((48 * d) + (8 * x)) = 0)) => absurd (show ¬ rd (A 100) ((48 * d) + (8 * x)) = 0 by omega) z)
              refine R_s (P := inI (x + 1) ∧ True) (f' := (56, [some (vR 88), some (vI d), some (vI (x + 1)), some (vI ((48 * d) + (8 * x))), none, none, none], [], LAY (u (u (u (u (u A 109 l109) 104 m4) 105 m5) 107 (wr (wr b107 x 0) x ((Y * (rd (A 100) (((48 * d) + (8 * x)) + 1))) / 100))) 108 (wr b108 mg ((rd b108 mg) + (rd (wr (wr b107 x 0) x ((Y * (rd (A 100) (((48 * d) + (8 * x)) + 1))) / 100)) x)))) (u (u (u (u F 28 Y) 29 ac) 30 mg) 31 (lf - (rd (wr (wr b107 x 0) x ((Y * (rd (A 100) (((48 * d) + (8 * x)) + 1))) / 100)) x))), 0, 0)) hc146 2 rfl ⟨⟨by omega, by omega⟩, trivial⟩ ?_
              refine R_s (P := True) (f' := (56, [some (vR 88), some (vI d), some (vI (x + 1)), some (vI ((48 * d) + (8 * x))), none, none, none], [], LAY (u (u (u (u (u A 109 l109) 104 m4) 105 m5) 107 (wr (wr b107 x 0) x ((Y * (rd (A 100) (((48 * d) + (8 * x)) + 1))) / 100))) 108 (wr b108 mg ((rd b108 mg) + (rd (wr (wr b107 x 0) x ((Y * (rd (A 100) (((48 * d) + (8 * x)) + 1))) / 100)) x)))) (u (u (u (u F 28 Y) 29 ac) 30 mg) 31 (lf - (rd (wr (wr b107 x 0) x ((Y * (rd (A 100) (((48 * d) + (8 * x)) + 1))) / 100)) x))), 0, 0)) hc146 0 rfl trivial ?_
              refine ih (i + 1) _ _ _ _ _ _ _ _ (by omega) hm4 hm5 (by (try simp only [wr_len]); omega) (by (try simp only [wr_len]); omega) ?_ ?_ (fun j hj => ?_) (fun p hp => ?_) (by omega) (by omega)
              · rw [if_neg (by omega)]
              · have p1 : ((Y * (rd (A 100) (((48 * d) + (8 * x)) + 1))) / 100) = pm := pv (by omega)
                rw [if_neg (by omega), rd_wr_s (l := wr b107 x 0) (by omega) (by rw [wr_len]; omega)]
                simp only [S_fx]
                rw [f0, e0]
                omega
              · have p1 : ((Y * (rd (A 100) (((48 * d) + (8 * x)) + 1))) / 100) = pm := pv (by omega)
                rw [rd_wr (by omega) (by rw [wr_len]; omega) (by omega)]
                have e9 : (j : Int) = x := by omega
                have e2 : j = i := by omega
                rw [if_pos e9, e2, if_neg (by omega)]
                unfold S_ge
                rw [if_pos z0.1]
                omega
              · have p1 : ((Y * (rd (A 100) (((48 * d) + (8 * x)) + 1))) / 100) = pm := pv (by omega)
                rw [rd_wr_s (l := wr b107 x 0) (by omega) (by rw [wr_len]; omega), rd_wr (by omega) (by omega) (by omega), z8 (by omega), show (if i + 1 = 0 then (0 : Int) else if mg = p then pm else 0) = if mg = p then pm else 0 from if_neg (by omega)]
                by_cases e9 : (p : Int) = mg
                · rw [if_pos e9, if_pos e9.symm]
                  omega
                · rw [if_neg e9, if_neg (fun z => e9 z.symm), h8 p hp, if_pos i0]
            · refine R_s (P := (0 ≤ x ∧ x < ((wr b107 x 0).length : Int)) ∧ (0 ≤ x ∧ x < ((wr (wr b107 x 0) x 0).length : Int)) ∧ inI (lf - (rd (wr (wr b107 x 0) x 0) x)) ∧ True) (f' := (171, [some (vR 88), some (vI d), some (vI x), some (vI ((48 * d) + (8 * x))), none, none, none], [vI (-1), vI mg], LAY (u (u (u (u (u A 109 l109) 108 b108) 104 m4) 105 m5) 107 (wr (wr b107 x 0) x 0)) (u (u (u (u F 28 Y) 29 ac) 30 mg) 31 (lf - (rd (wr (wr b107 x 0) x 0) x))), 0, 0)) hc146 15 rfl ⟨⟨by omega, by simp only [wr_len]; omega⟩, ⟨by omega, by simp only [wr_len]; omega⟩, (by rw [rd_wr_s (l := wr b107 x 0) (by omega) (by rw [wr_len]; omega)]; have q1 := hmul; have q2 := z8; have q3 := pv; have q4 := pz; unfold inI; omega), trivial⟩ ?_
              refine R_ic (t := 192) hc146 rfl rfl (fun (_ : mg = (-1)) => ?_) (fun (z : ¬ (mg = (-1))) => absurd (show mg = (-1) by omega) z)
              refine R_s (P := (0 ≤ (48 * d) + (8 * x) ∧ (48 * d) + (8 * x) < ((A 100).length : Int)) ∧ True) (f' := (198, [some (vR 88), some (vI d), some (vI x), some (vI ((48 * d) + (8 * x))), none, none, none], [vI (rd (A 100) ((48 * d) + (8 * x)))], LAY (u (u (u (u (u A 109 l109) 108 b108) 104 m4) 105 m5) 107 (wr (wr b107 x 0) x 0)) (u (u (u (u F 28 Y) 29 ac) 30 mg) 31 (lf - (rd (wr (wr b107 x 0) x 0) x))), 0, 0)) hc146 4 rfl ⟨⟨by omega, by omega⟩, trivial⟩ ?_
              refine R_if (t := 260) hc146 rfl rfl (fun (_ : ¬ rd (A 100) ((48 * d) + (8 * x)) = 0) => ?_) (fun (z : ¬ (¬ rd (A 100) ((48 * d) + (8 * x)) = 0)) => absurd (show ¬ rd (A 100) ((48 * d) + (8 * x)) = 0 by omega) z)
              refine R_s (P := inI (x + 1) ∧ True) (f' := (56, [some (vR 88), some (vI d), some (vI (x + 1)), some (vI ((48 * d) + (8 * x))), none, none, none], [], LAY (u (u (u (u (u A 109 l109) 108 b108) 104 m4) 105 m5) 107 (wr (wr b107 x 0) x 0)) (u (u (u (u F 28 Y) 29 ac) 30 mg) 31 (lf - (rd (wr (wr b107 x 0) x 0) x))), 0, 0)) hc146 2 rfl ⟨⟨by omega, by omega⟩, trivial⟩ ?_
              refine R_s (P := True) (f' := (56, [some (vR 88), some (vI d), some (vI (x + 1)), some (vI ((48 * d) + (8 * x))), none, none, none], [], LAY (u (u (u (u (u A 109 l109) 104 m4) 105 m5) 107 (wr (wr b107 x 0) x 0)) 108 b108) (u (u (u (u F 28 Y) 29 ac) 30 mg) 31 (lf - (rd (wr (wr b107 x 0) x 0) x))), 0, 0)) hc146 0 rfl trivial ?_
              refine ih (i + 1) _ _ _ _ _ _ _ _ (by omega) hm4 hm5 (by (try simp only [wr_len]); omega) (by (try simp only [wr_len]); omega) ?_ ?_ (fun j hj => ?_) (fun p hp => ?_) (by omega) (by omega)
              · rw [if_neg (by omega)]
              · have p1 : pm = 0 := pz (by omega)
                rw [if_neg (by omega), rd_wr_s (l := wr b107 x 0) (by omega) (by rw [wr_len]; omega)]
                simp only [S_fx]
                rw [f0, e0]
                omega
              · have p1 : pm = 0 := pz (by omega)
                rw [rd_wr (by omega) (by rw [wr_len]; omega) (by omega)]
                have e9 : (j : Int) = x := by omega
                have e2 : j = i := by omega
                rw [if_pos e9, e2, if_neg (by omega)]
                unfold S_ge
                rw [if_pos z0.1]
                omega
              · have p1 : pm = 0 := pz (by omega)
                rw [h8 p hp, if_pos i0, show (if i + 1 = 0 then (0 : Int) else if mg = p then pm else 0) = if mg = p then pm else 0 from if_neg (by omega), p1]
                split <;> rfl
  have lp0 : ∀ (m i : Nat) (x : Int) (w : List Int), x = (i : Int) → w.length = 30 → (∀ q : Nat, q < i → rd w q = 0) → i ≤ n → n + 1 ≤ i + m → R 146 (33, [some (vR 88), some (vI d), some (vI x), none, none, none, none], [], LAY (u (u (u (u A 109 l109) 104 l104) 105 l105) 108 w) (u (u (u (u F 28 Y) 29 ac) 30 (-1)) 31 Y), 0, 0) (fun r G => r = none ∧ ∃ l104 l105 l107 l108 l109 l110 l111, G = LAY (u (u (u (u (u (u (u A 109 l109) 104 l104) 105 l105) 110 l110) 111 l111) 108 l108) 107 l107) (u (u (u (u F 28 Y) 29 ac) 30 mg) 31 lo) ∧ l104.length = 30 ∧ l105.length = 30 ∧ l107.length = 6 ∧ l108.length = 30 ∧ l109.length = 30 ∧ l110.length = 30 ∧ l111.length = 30 ∧ (∀ j : Nat, j < e → rd l107 j = S_te n (A 90) al Q so pm (Y - pm) lo e j) ∧ ∀ p : Nat, p < n → rd l108 p = (if mg = p then pm else 0) + S_ls n (A 90) al Q so lo e p) := by
    intro m
    induction m with
    | zero =>
      intro i x w ex hw hz hi hm
      exact absurd hm (by omega)
    | succ m ih =>
      intro i x w ex hw hz hi hm
      refine R_s (P := True) (f' := (38, [some (vR 88), some (vI d), some (vI x), none, none, none, none], [vI (F 19), vI x], LAY (u (u (u (u A 109 l109) 104 l104) 105 l105) 108 w) (u (u (u (u F 28 Y) 29 ac) 30 (-1)) 31 Y), 0, 0)) hc146 3 rfl trivial ?_
      refine R_ic (t := 54) hc146 rfl rfl (fun (c1 : F 19 ≤ x) => ?_) (fun (c1 : ¬ (F 19 ≤ x)) => ?_)
      · refine R_s (P := True) (f' := (56, [some (vR 88), some (vI d), some (vI 0), none, none, none, none], [], LAY (u (u (u (u A 109 l109) 104 l104) 105 l105) 108 w) (u (u (u (u F 28 Y) 29 ac) 30 (-1)) 31 Y), 0, 0)) hc146 2 rfl trivial ?_
        refine R_s (P := True) (f' := (56, [some (vR 88), some (vI d), some (vI 0), none, none, none, none], [], LAY (u (u (u (u (u A 109 l109) 104 l104) 105 l105) 107 (A 107)) 108 w) (u (u (u (u F 28 Y) 29 ac) 30 (-1)) 31 Y), 0, 0)) hc146 0 rfl trivial ?_
        exact lp (e + 1) 0 _ _ _ _ _ _ _ _ rfl hl4 hl5 h107 hw (by rw [if_pos rfl]) (by rw [if_pos rfl]) (fun j hj => absurd hj (by omega)) (fun p hp => by rw [if_pos rfl]; exact hz p (by omega)) (by omega) (by omega)
      · refine R_s (P := (0 ≤ x ∧ x < ((w).length : Int)) ∧ inI (x + 1) ∧ True) (f' := (33, [some (vR 88), some (vI d), some (vI (x + 1)), none, none, none, none], [], LAY (u (u (u (u A 109 l109) 104 l104) 105 l105) 108 (wr w x 0)) (u (u (u (u F 28 Y) 29 ac) 30 (-1)) 31 Y), 0, 0)) hc146 7 rfl ⟨⟨by omega, by omega⟩, ⟨by omega, by omega⟩, trivial⟩ ?_
        exact ih (i + 1) _ _ (by omega) (by rw [wr_len]; exact hw) (fun p hp => by rw [rd_wr (by omega) (by omega) (by omega)]; split <;> first | rfl | exact hz p (by omega)) (by omega) (by omega)
  refine R_s (P := True) (f' := (33, [some (vR 88), some (vI d), some (vI 0), none, none, none, none], [], LAY (u (u (u (u A 109 l109) 104 l104) 105 l105) 108 (A 108)) (u (u (u (u F 28 Y) 29 ac) 30 (-1)) 31 Y), 0, 0)) hc146 0 rfl trivial ?_
  exact lp0 (n + 1) 0 _ _ rfl h108 (fun q hq => absurd hq (by omega)) (by omega) (by omega)

