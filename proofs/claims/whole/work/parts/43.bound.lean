theorem l_wakeWx {A : Nat → List Int} {F : Nat → Int} {n : Nat} (hL : LENS A) (hn : (n : Int) = F 3) (hn30 : n ≤ 30) (hT : TR (A 3) n) {yr x : Int} {w : Nat} (ex : x = (w : Int)) {al : Nat → Int} (hU : ∀ p : Nat, p < n → rd (A 6) p = 0 ∨ rd (A 6) p = 1) (hTk : ∀ p : Nat, p < n → rd (A 7) p = 0 ∨ rd (A 7) p = 1) (hal : ∀ p : Nat, p < n → al p = LV yr (A 4) (A 6) (A 5) (fun p => ((w / 2 ^ rk yr (A 4) (A 6) p % 2 : Nat) : Int)) p) : R 14 (0, L0 14 [vR 2, vI yr, vI x], [], LAY A F, 0, 0) (fun r G => r = none ∧ ∃ l8 l9 l10, G = LAY (u (u (u A 8 l8) 9 l9) 10 l10) F ∧ l8.length = 30 ∧ l9.length = 30 ∧ l10.length = 30 ∧ ∀ p : Nat, p < n → rd l8 p = al p ∧ rd l9 p = CN (A 3) n al p ∧ rd l10 p = HR (A 3) n al p) := by
  subst ex
  exact l_wakeW hL hn hn30 hT hU hTk hal
/-- every choice of marks has a number -/
theorem way_ex (s c t : Nat → Nat) (h0 : c 0 = 0) (hc : ∀ i, c (i + 1) = c i + (if s i = 1 then 1 else 0)) (ht : ∀ i, t i < 2) : ∀ n, ∃ w, w < 2 ^ c n ∧ ∀ p, p < n → s p = 1 → w / 2 ^ c p % 2 = t p
  | 0 => ⟨0, by rw [h0]; decide, fun p hp => absurd hp (by omega)⟩
  | n + 1 => by
    obtain ⟨w, h1, h2⟩ := way_ex s c t h0 hc ht n
    have hm : ∀ i j, i ≤ j → c i ≤ c j := fun i j hij => by
      induction j with
      | zero => rw [show i = 0 by omega]; exact Nat.le_refl _
      | succ j ih =>
        by_cases e : i = j + 1
        · rw [e]
          exact Nat.le_refl _
        · have := ih (by omega)
          rw [hc j]
          omega
    by_cases e : s n = 1
    · refine ⟨w + t n * 2 ^ c n, ?_, fun p hp hs => ?_⟩
      · rw [hc n, if_pos e, Nat.pow_succ]
        obtain e2 | e2 : t n = 0 ∨ t n = 1 := by
          have := ht n
          omega
        · rw [e2]
          omega
        · rw [e2]
          omega
      · by_cases q : p = n
        · subst q
          rw [Nat.add_mul_div_right _ _ (Nat.two_pow_pos _), Nat.div_eq_of_lt h1, Nat.zero_add, Nat.mod_eq_of_lt (ht p)]
        · have h3 := hm (p + 1) n (by omega)
          rw [hc p, if_pos hs] at h3
          obtain ⟨k, hk⟩ : ∃ k, c n = k + 1 + c p := ⟨c n - 1 - c p, by omega⟩
          rw [hk, Nat.pow_add, Nat.pow_succ, ← Nat.mul_assoc, Nat.add_mul_div_right _ _ (Nat.two_pow_pos _), ← Nat.mul_assoc, Nat.add_mul_mod_self_right]
          exact h2 p (by omega) hs
    · refine ⟨w, by rw [hc n, if_neg e]; exact h1, fun p hp hs => h2 p (by
        by_cases q : p = n
        · rw [q] at hs
          exact absurd hs e
        · omega) hs⟩
def ck (U : List Int) : Nat → Nat
  | 0 => 0
  | i + 1 => ck U i + (if rd U i = 0 then 0 else 1)
theorem ck_sm (U : List Int) (n : Nat) : sm (fun i => if rd U i = 0 then 0 else 1) n = (ck U n : Int) := by
  induction n with
  | zero => rfl
  | succ n ih =>
    simp only [sm, ck, ih]
    split <;> omega
theorem ck_bd (U : List Int) (n : Nat) : ck U n ≤ n := by
  induction n with
  | zero => exact Nat.le_refl 0
  | succ n ih =>
    simp only [ck]
    split <;> omega
theorem ck_mono (U : List Int) {i n : Nat} (h : i ≤ n) : ck U i ≤ ck U n := by
  induction n with
  | zero => rw [show i = 0 by omega]; exact Nat.le_refl _
  | succ n ih =>
    by_cases e : i = n + 1
    · rw [e]
      exact Nat.le_refl _
    · have := ih (by omega)
      simp only [ck]
      omega
theorem rk_ck (yr : Int) (B U : List Int) (n : Nat) : rk yr B U n ≤ ck U n := by
  induction n with
  | zero => exact Nat.le_refl 0
  | succ n ih =>
    simp only [rk, ck]
    by_cases e : rd U n = 0
    · rw [if_neg (fun z => z.1 e), if_pos e]
      exact ih
    · rw [if_neg e]
      split <;> omega
theorem ck5 {c : Int} {A : Nat → List Int} {F : Nat → Int} (hR : REL c A F) : ck (A 6) (F 3).toNat ≤ 5 := by
  have z := hR.2.1.2.2.2.2.2
  rw [← sm_cb, ck_sm] at z
  omega
/-- who lives, the unknown ones by the bits of w -/
def alW (A : Nat → List Int) (F : Nat → Int) (w : Nat) (cn : Nat → Nat) : Nat → Int := fun p => if p < (F 3).toNat then LV (F 2) (A 4) (A 6) (A 5) (fun p => ((w / 2 ^ cn p % 2 : Nat) : Int)) p else 0
theorem alW_01 {A : Nat → List Int} {F : Nat → Int} {w : Nat} {cn : Nat → Nat} (p : Nat) : alW A F w cn p = 0 ∨ alW A F w cn p = 1 := by
  unfold alW
  split
  · exact LV_01 (by omega)
  · exact .inl rfl
theorem alW_eq {A : Nat → List Int} {F : Nat → Int} {w w' : Nat} {cn cn' : Nat → Nat} (h : ∀ p : Nat, p < (F 3).toNat → rd (A 4) p ≤ F 2 → rd (A 6) p ≠ 0 → w / 2 ^ cn p % 2 = w' / 2 ^ cn' p % 2) : alW A F w cn = alW A F w' cn' := by
  funext p
  unfold alW
  by_cases e : p < (F 3).toNat
  · rw [if_pos e, if_pos e]
    unfold LV
    by_cases e1 : rd (A 4) p ≤ F 2
    · rw [if_pos e1, if_pos e1]
      by_cases e2 : rd (A 6) p = 0
      · rw [if_pos e2, if_pos e2]
      · rw [if_neg e2, if_neg e2]
        (try dsimp only)
        rw [h p e e1 e2]
    · rw [if_neg e1, if_neg e1]
  · rw [if_neg e, if_neg e]
/-- each way of the class is one of the model, and the other way round -/
theorem way_CM {A : Nat → List Int} {F : Nat → Int} (w : Nat) : ∃ w', w' < 2 ^ ck (A 6) (F 3).toNat ∧ alW A F w (rk (F 2) (A 4) (A 6)) = alW A F w' (ck (A 6)) := by
  obtain ⟨w', h1, h2⟩ := way_ex (fun p => if rd (A 6) p = 0 then 0 else 1) (ck (A 6)) (fun p => w / 2 ^ rk (F 2) (A 4) (A 6) p % 2) rfl (fun i => by
    simp only [ck]
    by_cases e : rd (A 6) i = 0
    · rw [if_pos e]
      rfl
    · rw [if_neg e]
      rfl) (fun i => by (try dsimp only); omega) (F 3).toNat
  exact ⟨w', h1, alW_eq (fun p hp _ hu => (h2 p hp (if_neg hu)).symm)⟩
theorem way_MC {A : Nat → List Int} {F : Nat → Int} (w : Nat) : ∃ w', w' < 2 ^ rk (F 2) (A 4) (A 6) (F 3).toNat ∧ alW A F w' (rk (F 2) (A 4) (A 6)) = alW A F w (ck (A 6)) := by
  obtain ⟨w', h1, h2⟩ := way_ex (fun p => if rd (A 6) p ≠ 0 ∧ rd (A 4) p ≤ F 2 then 1 else 0) (rk (F 2) (A 4) (A 6)) (fun p => w / 2 ^ ck (A 6) p % 2) rfl (fun i => by
    simp only [rk]
    by_cases e : rd (A 6) i ≠ 0 ∧ rd (A 4) i ≤ F 2
    · rw [if_pos e]
      rfl
    · rw [if_neg e]
      rfl) (fun i => by (try dsimp only); omega) (F 3).toNat
  exact ⟨w', h1, alW_eq (fun p hp hb hu => h2 p hp (if_pos ⟨hu, hb⟩))⟩
/-- b is the best of the first k -/
def BEST (g : Int) (v : Nat → Int) (k : Nat) (b : Int) : Prop := (∃ i, i < k ∧ b = v i) ∧ ∀ i, i < k → (g ≠ 0 → v i ≤ b) ∧ (g = 0 → b ≤ v i)
theorem BEST_new {g : Int} {v : Nat → Int} {k : Nat} {b : Int} (h : k = 0 ∨ BEST g v k b) (h2 : k = 0 ∨ (g ≠ 0 ∧ b ≤ v k) ∨ (g = 0 ∧ v k ≤ b)) : BEST g v (k + 1) (v k) := by
  refine ⟨⟨k, by omega, rfl⟩, fun i hi => ?_⟩
  by_cases e : i = k
  · rw [e]
    exact ⟨fun _ => Int.le_refl _, fun _ => Int.le_refl _⟩
  · have h3 := (h.resolve_left (by omega)).2 i (by omega)
    have h4 := h2.resolve_left (by omega)
    exact ⟨fun q => by have := h3.1 q; omega, fun q => by have := h3.2 q; omega⟩
theorem BEST_old {g : Int} {v : Nat → Int} {k : Nat} {b : Int} (h : BEST g v k b) (h2 : (g ≠ 0 ∧ v k ≤ b) ∨ (g = 0 ∧ b ≤ v k)) : BEST g v (k + 1) b := by
  obtain ⟨⟨j, hj, hb⟩, h3⟩ := h
  refine ⟨⟨j, by omega, hb⟩, fun i hi => ?_⟩
  by_cases e : i = k
  · rw [e]
    exact ⟨fun q => by omega, fun q => by omega⟩
  · exact h3 i (by omega)
theorem BEST_eq {g : Int} {v v' : Nat → Int} {k k' : Nat} {b b' : Int} (h : BEST g v k b) (h' : BEST g v' k' b') (h1 : ∀ i, i < k → ∃ j, j < k' ∧ v i = v' j) (h2 : ∀ j, j < k' → ∃ i, i < k ∧ v i = v' j) : b' = b := by
  obtain ⟨⟨i, hi, e1⟩, h3⟩ := h
  obtain ⟨⟨j, hj, e2⟩, h4⟩ := h'
  obtain ⟨j1, hj1, e3⟩ := h1 i hi
  obtain ⟨i1, hi1, e4⟩ := h2 j hj
  have a := h3 i1 hi1
  have b := h4 j1 hj1
  by_cases q : g = 0
  · have a1 := a.2 q
    have b1 := b.2 q
    omega
  · have a1 := a.1 q
    have b1 := b.1 q
    omega
theorem SPL_V {A : Nat → List Int} {F : Nat → Int} {al : Nat → Int} {Q : Nat → List Int} {e : Nat} {Y : Int} {so te tp : Nat → Int} {mg pm lo : Int} (hS : SPL A F al Q e Y so te tp mg pm lo) (p : Nat) : tp p = T_tp (F 3).toNat (F 2) Y (A 3) (A 4) al Q e p := by
  obtain ⟨s1, s2, s3, s4, s5, s6⟩ := hS
  subst s1
  subst s2
  subst s3
  subst s4
  subst s5
  subst s6
  rfl
/-- what a way gives to p -/
def vW (A : Nat → List Int) (F : Nat → Int) (Q : Nat → List Int) (e : Nat) (Y : Int) (cn : Nat → Nat) (p w : Nat) : Int := T_tp (F 3).toNat (F 2) Y (A 3) (A 4) (alW A F w cn) Q e p
theorem pow_le5 {k : Nat} (h : k ≤ 5) : 2 ^ k ≤ 32 := by
  have := Nat.pow_le_pow_right (show 0 < 2 by decide) h
  omega

theorem LENS_8 {A : Nat → List Int} (hL : LENS A) {l8 l9 l10 l11 l75 l76 l77 l78 : List Int} (hl8 : l8.length = 30) (hl9 : l9.length = 30) (hl10 : l10.length = 30) (hl11 : l11.length = 30) (hl75 : l75.length = 6) (hl76 : l76.length = 6) (hl77 : l77.length = 30) (hl78 : l78.length = 30) : LENS (u (u (u (u (u (u (u (u (shA A) 8 l8) 9 l9) 10 l10) 11 l11) 75 l75) 76 l76) 77 l77) 78 l78) := by
  exact (LENS_u (LENS_u (LENS_u (LENS_u (LENS_u (LENS_u (LENS_u (LENS_u (LENS_sh hL) (by show l8.length = (A 8).length; rw [hl8, hL 8 (by decide)]; rfl)) (by show l9.length = (A 9).length; rw [hl9, hL 9 (by decide)]; rfl)) (by show l10.length = (A 10).length; rw [hl10, hL 10 (by decide)]; rfl)) (by show l11.length = (A 11).length; rw [hl11, hL 11 (by decide)]; rfl)) (by show l75.length = (A 75).length; rw [hl75, hL 75 (by decide)]; rfl)) (by show l76.length = (A 76).length; rw [hl76, hL 76 (by decide)]; rfl)) (by show l77.length = (A 77).length; rw [hl77, hL 77 (by decide)]; rfl)) (by show l78.length = (A 78).length; rw [hl78, hL 78 (by decide)]; rfl))

theorem bound_C0 {c : Int} {A : Nat → List Int} {F : Nat → Int} (hR : REL c A F) (hd : (0 : Int) < F 0) {p g ws Y : Int} (hp : 0 ≤ p ∧ p < F 3) (hY : Y = N_Y A F 0) (hws : ws = ((2 ^ rk (F 2) (A 4) (A 6) (F 3).toNat : Nat) : Int)) {post : Option AV → AG → Prop} (hk : ∀ (b x : Int) (v9 : Option AV) (l8 l9 l10 l11 l75 l76 l77 l78 : List Int) (_ : l8.length = 30) (_ : l9.length = 30) (_ : l10.length = 30) (_ : l11.length = 30) (_ : l75.length = 6) (_ : l76.length = 6) (_ : l77.length = 30) (_ : l78.length = 30) (v14 v15 : Int), BEST g (vW A F (N_Q A 21) (F 8).toNat (N_Y A F 0) (rk (F 2) (A 4) (A 6)) p.toNat) (2 ^ rk (F 2) (A 4) (A 6) (F 3).toNat) b → R 80 (147, [some (vR 1), some (vI 0), some (vI p), some (vI g), some (vR 20), some (vI Y), some (vI ws), some (vI b), some (vI x), v9], [], LAY (u (u (u (u (u (u (u (u (shA A) 8 l8) 9 l9) 10 l10) 11 l11) 75 l75) 76 l76) 77 l77) 78 l78) (u (u (shF F) 14 v14) 15 v15), 0, 0) post) : R 80 (61, [some (vR 1), some (vI 0), some (vI p), some (vI g), some (vR 20), some (vI Y), some (vI ws), some (vI 0), some (vI 0), none], [], LAY (shA A) (shF F), 0, 0) post := by
  have hL := hR.1
  have hn := R_n hR
  have hn30 := R_n30 hR
  have hF := (D_at0 hR hd).1.1
  have hYb := N_Y_bd hR (d := 0) (by decide)
  rw [← hY] at hYb
  have h32 := pow_le5 (Nat.le_trans (rk_ck (F 2) (A 4) (A 6) (F 3).toNat) (ck5 hR))
  have hpos := Nat.two_pow_pos (rk (F 2) (A 4) (A 6) (F 3).toNat)
  have lp : ∀ (m i : Nat) (b : Int) (x : Int) (v9 : Option AV) (l8 : List Int) (l9 : List Int) (l10 : List Int) (l11 : List Int) (l75 : List Int) (l76 : List Int) (l77 : List Int) (l78 : List Int) (v14 : Int) (v15 : Int), x = (i : Int) → l8.length = 30 → l9.length = 30 → l10.length = 30 → l11.length = 30 → l75.length = 6 → l76.length = 6 → l77.length = 30 → l78.length = 30 → (i = 0 ∨ BEST g (vW A F (N_Q A 21) (F 8).toNat (N_Y A F 0) (rk (F 2) (A 4) (A 6)) p.toNat) i b) → i ≤ 2 ^ rk (F 2) (A 4) (A 6) (F 3).toNat → 2 ^ rk (F 2) (A 4) (A 6) (F 3).toNat + 1 ≤ i + m → R 80 (61, [some (vR 1), some (vI 0), some (vI p), some (vI g), some (vR 20), some (vI Y), some (vI ws), some (vI b), some (vI x), v9], [], LAY (u (u (u (u (u (u (u (u (shA A) 8 l8) 9 l9) 10 l10) 11 l11) 75 l75) 76 l76) 77 l77) 78 l78) (u (u (shF F) 14 v14) 15 v15), 0, 0) post := by
    intro m
    induction m with
    | zero =>
      intro i b x v9 l8 l9 l10 l11 l75 l76 l77 l78 v14 v15 ex hl8 hl9 hl10 hl11 hl75 hl76 hl77 hl78 hb hi hm
      exact absurd hm (by omega)
    | succ m ih =>
      intro i b x v9 l8 l9 l10 l11 l75 l76 l77 l78 v14 v15 ex hl8 hl9 hl10 hl11 hl75 hl76 hl77 hl78 hb hi hm
      refine R_s (P := True) (f' := (65, [some (vR 1), some (vI 0), some (vI p), some (vI g), some (vR 20), some (vI Y), some (vI ws), some (vI b), some (vI x), v9], [vI ws, vI x], LAY (u (u (u (u (u (u (u (u (shA A) 8 l8) 9 l9) 10 l10) 11 l11) 75 l75) 76 l76) 77 l77) 78 l78) (u (u (shF F) 14 v14) 15 v15), 0, 0)) hc80 2 rfl trivial ?_
      refine R_ic (t := 147) hc80 rfl rfl (fun (c1 : ws ≤ x) => ?_) (fun (c1 : ¬ (ws ≤ x)) => ?_)
      · exact hk b x v9 l8 l9 l10 l11 l75 l76 l77 l78 hl8 hl9 hl10 hl11 hl75 hl76 hl77 hl78 v14 v15 (by have z := hb.resolve_left (by omega); rw [show i = 2 ^ rk (F 2) (A 4) (A 6) (F 3).toNat by omega] at z; exact z)
      · refine R_s (P := True) (f' := (78, [some (vR 1), some (vI 0), some (vI p), some (vI g), some (vR 20), some (vI Y), some (vI ws), some (vI b), some (vI x), v9], [vI x, vI (F 2), vR 2], LAY (u (u (u (u (u (u (u (u (shA A) 8 l8) 9 l9) 10 l10) 11 l11) 75 l75) 76 l76) 77 l77) 78 l78) (u (u (shF F) 14 v14) 15 v15), 0, 0)) hc80 5 rfl trivial ?_
        refine R_cv hc80 rfl rfl (l_wakeWx (A := (u (u (u (u (u (u (u (u (shA A) 8 l8) 9 l9) 10 l10) 11 l11) 75 l75) 76 l76) 77 l77) 78 l78)) (F := (u (u (shF F) 14 v14) 15 v15)) (n := (F 3).toNat) (w := i) (al := (alW A F i (rk (F 2) (A 4) (A 6)))) (LENS_8 hL hl8 hl9 hl10 hl11 hl75 hl76 hl77 hl78) hn hn30 (R_TR (A := A) hR) ex (R_U (A := A) hR) (R_T (A := A) hR) (fun q hq => by show alW A F i _ q = _; unfold alW; rw [if_pos hq]; rfl)) (fun r G9 hp9 => ?_)
        obtain ⟨rfl, m8, m9, m10, rfl, hm8, hm9, hm10, hw⟩ := hp9
        obtain ⟨so, te, tp, mg, pm, lo, hS⟩ := SPL_ex A F (alW A F i (rk (F 2) (A 4) (A 6))) (N_Q A 21) (F 8).toNat Y
        have hV := SPL_V hS
        obtain ⟨s1, s2, s3, s4, s5, s6⟩ := hS
        refine R_s (f' := (81, [some (vR 1), some (vI 0), some (vI p), some (vI g), some (vR 20), some (vI Y), some (vI ws), some (vI b), some (vI x), v9], [], LAY (u (u (u (u (u (u (u (u (shA A) 11 l11) 75 l75) 76 l76) 77 l77) 78 l78) 8 m8) 9 m9) 10 m10) (u (u (shF F) 14 v14) 15 v15), 0, 0)) hc80 0 rfl trivial ?_
        refine R_s (P := True) (f' := (97, [some (vR 1), some (vI 0), some (vI p), some (vI g), some (vR 20), some (vI Y), some (vI ws), some (vI b), some (vI x), v9], [vI (F 2), vI Y, vR 20, vR 2, vR 74], LAY (u (u (u (u (u (u (u (u (shA A) 11 l11) 75 l75) 76 l76) 77 l77) 78 l78) 8 m8) 9 m9) 10 m10) (u (u (shF F) 14 v14) 15 v15), 0, 0)) hc80 8 rfl trivial ?_
        refine R_cv hc80 rfl rfl (l_reckon0 (A := (u (u (u (u (u (u (u (u (shA A) 8 m8) 9 m9) 10 m10) 11 l11) 75 l75) 76 l76) 77 l77) 78 l78)) (F := (u (u (shF F) 14 v14) 15 v15)) (n := (F 3).toNat) (LENS_8 hL hm8 hm9 hm10 hl11 hl75 hl76 hl77 hl78) hn hn30 (R_TR (A := A) hR) (al := (alW A F i (rk (F 2) (A 4) (A 6)))) (fun p hp => (hw p hp).1) (fun p _ => alW_01 p) (Q := N_Q A 21) (e := (F 8).toNat) (D_at0 hR hd).1 (by show F 8 = (((F 8).toNat : Nat) : Int); omega) rfl rfl rfl rfl rfl rfl rfl rfl (fun p hp => (hw p hp).2) (Y := Y) (yr := F 2) hYb (so := so) s1 (mg := mg) (pm := pm) (lo := lo) s2 s3 s4) (fun r G9 hp9 => ?_)
        obtain ⟨rfl, r11, r75, r76, r77, r78, rfl, hr11, hr75, hr76, hr77, hr78, z1, z2, z3⟩ := hp9
        have y77 : rd r77 p = vW A F (N_Q A 21) (F 8).toNat (N_Y A F 0) (rk (F 2) (A 4) (A 6)) p.toNat i := by
          have z := z3 p.toNat (by omega)
          rw [show ((p.toNat : Nat) : Int) = p by omega] at z
          have z4 := hV p.toNat
          rw [s6] at z4
          unfold vW
          rw [← hY, ← z4]
          have e : ((p.toNat : Nat) : Int) = p := by omega
          (try dsimp only)
          rw [e]
          exact z
        refine R_s (f' := (100, [some (vR 1), some (vI 0), some (vI p), some (vI g), some (vR 20), some (vI Y), some (vI ws), some (vI b), some (vI x), v9], [], LAY (u (u (u (u (u (u (u (u (shA A) 8 m8) 9 m9) 10 m10) 75 r75) 11 r11) 78 r78) 77 r77) 76 r76) (u (u (shF F) 14 mg) 15 lo), 0, 0)) hc80 0 rfl trivial ?_
        refine R_s (P := (0 ≤ p ∧ p < ((r77).length : Int)) ∧ True) (f' := (113, [some (vR 1), some (vI 0), some (vI p), some (vI g), some (vR 20), some (vI Y), some (vI ws), some (vI b), some (vI x), some (vI (rd r77 p))], [vI x], LAY (u (u (u (u (u (u (u (u (shA A) 8 m8) 9 m9) 10 m10) 75 r75) 11 r11) 78 r78) 77 r77) 76 r76) (u (u (shF F) 14 mg) 15 lo), 0, 0)) hc80 7 rfl ⟨⟨by omega, by omega⟩, trivial⟩ ?_
        refine R_if (t := 137) hc80 rfl rfl (fun (c2 : x = 0) => ?_) (fun (c2 : ¬ (x = 0)) => ?_)
        · refine R_s (P := inI (x + 1) ∧ True) (f' := (61, [some (vR 1), some (vI 0), some (vI p), some (vI g), some (vR 20), some (vI Y), some (vI ws), some (vI (rd r77 p)), some (vI (x + 1)), some (vI (rd r77 p))], [], LAY (u (u (u (u (u (u (u (u (shA A) 8 m8) 9 m9) 10 m10) 75 r75) 11 r11) 78 r78) 77 r77) 76 r76) (u (u (shF F) 14 mg) 15 lo), 0, 0)) hc80 4 rfl ⟨⟨by omega, by omega⟩, trivial⟩ ?_
          refine R_s (P := True) (f' := (61, [some (vR 1), some (vI 0), some (vI p), some (vI g), some (vR 20), some (vI Y), some (vI ws), some (vI (rd r77 p)), some (vI (x + 1)), some (vI (rd r77 p))], [], LAY (u (u (u (u (u (u (u (u (shA A) 8 m8) 9 m9) 10 m10) 11 r11) 75 r75) 76 r76) 77 r77) 78 r78) (u (u (shF F) 14 mg) 15 lo), 0, 0)) hc80 0 rfl trivial ?_
          refine ih (i + 1) _ _ _ _ _ _ _ _ _ _ _ _ _ (by omega) hm8 hm9 hm10 hr11 hr75 hr76 hr77 hr78 (.inr ?_) (by omega) (by omega)
          rw [y77]
          exact BEST_new hb (by rw [← y77]; omega)
        · refine R_s (P := True) (f' := (117, [some (vR 1), some (vI 0), some (vI p), some (vI g), some (vR 20), some (vI Y), some (vI ws), some (vI b), some (vI x), some (vI (rd r77 p))], [vI g], LAY (u (u (u (u (u (u (u (u (shA A) 8 m8) 9 m9) 10 m10) 75 r75) 11 r11) 78 r78) 77 r77) 76 r76) (u (u (shF F) 14 mg) 15 lo), 0, 0)) hc80 1 rfl trivial ?_
          refine R_if (t := 130) hc80 rfl rfl (fun (c3 : g = 0) => ?_) (fun (c3 : ¬ (g = 0)) => ?_)
          · refine R_s (P := True) (f' := (134, [some (vR 1), some (vI 0), some (vI p), some (vI g), some (vR 20), some (vI Y), some (vI ws), some (vI b), some (vI x), some (vI (rd r77 p))], [vI b, vI (rd r77 p)], LAY (u (u (u (u (u (u (u (u (shA A) 8 m8) 9 m9) 10 m10) 75 r75) 11 r11) 78 r78) 77 r77) 76 r76) (u (u (shF F) 14 mg) 15 lo), 0, 0)) hc80 2 rfl trivial ?_
            refine R_ic (t := 141) hc80 rfl rfl (fun (c4 : b ≤ rd r77 p) => ?_) (fun (c4 : ¬ (b ≤ rd r77 p)) => ?_)
            · refine R_s (P := inI (x + 1) ∧ True) (f' := (61, [some (vR 1), some (vI 0), some (vI p), some (vI g), some (vR 20), some (vI Y), some (vI ws), some (vI b), some (vI (x + 1)), some (vI (rd r77 p))], [], LAY (u (u (u (u (u (u (u (u (shA A) 8 m8) 9 m9) 10 m10) 75 r75) 11 r11) 78 r78) 77 r77) 76 r76) (u (u (shF F) 14 mg) 15 lo), 0, 0)) hc80 2 rfl ⟨⟨by omega, by omega⟩, trivial⟩ ?_
              refine R_s (P := True) (f' := (61, [some (vR 1), some (vI 0), some (vI p), some (vI g), some (vR 20), some (vI Y), some (vI ws), some (vI b), some (vI (x + 1)), some (vI (rd r77 p))], [], LAY (u (u (u (u (u (u (u (u (shA A) 8 m8) 9 m9) 10 m10) 11 r11) 75 r75) 76 r76) 77 r77) 78 r78) (u (u (shF F) 14 mg) 15 lo), 0, 0)) hc80 0 rfl trivial ?_
              refine ih (i + 1) _ _ _ _ _ _ _ _ _ _ _ _ _ (by omega) hm8 hm9 hm10 hr11 hr75 hr76 hr77 hr78 (.inr ?_) (by omega) (by omega)
              exact BEST_old (hb.resolve_left (by omega)) (by rw [← y77]; omega)
            · refine R_s (P := inI (x + 1) ∧ True) (f' := (61, [some (vR 1), some (vI 0), some (vI p), some (vI g), some (vR 20), some (vI Y), some (vI ws), some (vI (rd r77 p)), some (vI (x + 1)), some (vI (rd r77 p))], [], LAY (u (u (u (u (u (u (u (u (shA A) 8 m8) 9 m9) 10 m10) 75 r75) 11 r11) 78 r78) 77 r77) 76 r76) (u (u (shF F) 14 mg) 15 lo), 0, 0)) hc80 4 rfl ⟨⟨by omega, by omega⟩, trivial⟩ ?_
              refine R_s (P := True) (f' := (61, [some (vR 1), some (vI 0), some (vI p), some (vI g), some (vR 20), some (vI Y), some (vI ws), some (vI (rd r77 p)), some (vI (x + 1)), some (vI (rd r77 p))], [], LAY (u (u (u (u (u (u (u (u (shA A) 8 m8) 9 m9) 10 m10) 11 r11) 75 r75) 76 r76) 77 r77) 78 r78) (u (u (shF F) 14 mg) 15 lo), 0, 0)) hc80 0 rfl trivial ?_
              refine ih (i + 1) _ _ _ _ _ _ _ _ _ _ _ _ _ (by omega) hm8 hm9 hm10 hr11 hr75 hr76 hr77 hr78 (.inr ?_) (by omega) (by omega)
              rw [y77]
              exact BEST_new hb (by rw [← y77]; omega)
          · refine R_s (P := True) (f' := (124, [some (vR 1), some (vI 0), some (vI p), some (vI g), some (vR 20), some (vI Y), some (vI ws), some (vI b), some (vI x), some (vI (rd r77 p))], [vI b, vI (rd r77 p)], LAY (u (u (u (u (u (u (u (u (shA A) 8 m8) 9 m9) 10 m10) 75 r75) 11 r11) 78 r78) 77 r77) 76 r76) (u (u (shF F) 14 mg) 15 lo), 0, 0)) hc80 2 rfl trivial ?_
            refine R_ic (t := 141) hc80 rfl rfl (fun (c5 : rd r77 p ≤ b) => ?_) (fun (c5 : ¬ (rd r77 p ≤ b)) => ?_)
            · refine R_s (P := inI (x + 1) ∧ True) (f' := (61, [some (vR 1), some (vI 0), some (vI p), some (vI g), some (vR 20), some (vI Y), some (vI ws), some (vI b), some (vI (x + 1)), some (vI (rd r77 p))], [], LAY (u (u (u (u (u (u (u (u (shA A) 8 m8) 9 m9) 10 m10) 75 r75) 11 r11) 78 r78) 77 r77) 76 r76) (u (u (shF F) 14 mg) 15 lo), 0, 0)) hc80 2 rfl ⟨⟨by omega, by omega⟩, trivial⟩ ?_
              refine R_s (P := True) (f' := (61, [some (vR 1), some (vI 0), some (vI p), some (vI g), some (vR 20), some (vI Y), some (vI ws), some (vI b), some (vI (x + 1)), some (vI (rd r77 p))], [], LAY (u (u (u (u (u (u (u (u (shA A) 8 m8) 9 m9) 10 m10) 11 r11) 75 r75) 76 r76) 77 r77) 78 r78) (u (u (shF F) 14 mg) 15 lo), 0, 0)) hc80 0 rfl trivial ?_
              refine ih (i + 1) _ _ _ _ _ _ _ _ _ _ _ _ _ (by omega) hm8 hm9 hm10 hr11 hr75 hr76 hr77 hr78 (.inr ?_) (by omega) (by omega)
              exact BEST_old (hb.resolve_left (by omega)) (by rw [← y77]; omega)
            · refine R_s (P := inI (x + 1) ∧ True) (f' := (61, [some (vR 1), some (vI 0), some (vI p), some (vI g), some (vR 20), some (vI Y), some (vI ws), some (vI (rd r77 p)), some (vI (x + 1)), some (vI (rd r77 p))], [], LAY (u (u (u (u (u (u (u (u (shA A) 8 m8) 9 m9) 10 m10) 75 r75) 11 r11) 78 r78) 77 r77) 76 r76) (u (u (shF F) 14 mg) 15 lo), 0, 0)) hc80 5 rfl ⟨⟨by omega, by omega⟩, trivial⟩ ?_
              refine R_s (P := True) (f' := (61, [some (vR 1), some (vI 0), some (vI p), some (vI g), some (vR 20), some (vI Y), some (vI ws), some (vI (rd r77 p)), some (vI (x + 1)), some (vI (rd r77 p))], [], LAY (u (u (u (u (u (u (u (u (shA A) 8 m8) 9 m9) 10 m10) 11 r11) 75 r75) 76 r76) 77 r77) 78 r78) (u (u (shF F) 14 mg) 15 lo), 0, 0)) hc80 0 rfl trivial ?_
              refine ih (i + 1) _ _ _ _ _ _ _ _ _ _ _ _ _ (by omega) hm8 hm9 hm10 hr11 hr75 hr76 hr77 hr78 (.inr ?_) (by omega) (by omega)
              rw [y77]
              exact BEST_new hb (by rw [← y77]; omega)
  refine R_s (P := True) (f' := (61, [some (vR 1), some (vI 0), some (vI p), some (vI g), some (vR 20), some (vI Y), some (vI ws), some (vI 0), some (vI 0), none], [], LAY (u (u (u (u (u (u (u (u (shA A) 8 (A 8)) 9 (A 9)) 10 (A 10)) 11 (A 11)) 75 (A 75)) 76 (A 76)) 77 (A 77)) 78 (A 78)) (u (u (shF F) 14 (F 14)) 15 (F 15)), 0, 0)) hc80 0 rfl trivial ?_
  exact lp (2 ^ rk (F 2) (A 4) (A 6) (F 3).toNat + 1) 0 _ _ _ _ _ _ _ _ _ _ _ _ _ rfl (hL 8 (by decide)) (hL 9 (by decide)) (hL 10 (by decide)) (hL 11 (by decide)) (hL 75 (by decide)) (hL 76 (by decide)) (hL 77 (by decide)) (hL 78 (by decide)) (.inl rfl) (by omega) (by omega)

theorem bound_C1 {c : Int} {A : Nat → List Int} {F : Nat → Int} (hR : REL c A F) (hd : (1 : Int) < F 0) {p g ws Y : Int} (hp : 0 ≤ p ∧ p < F 3) (hY : Y = N_Y A F 1) (hws : ws = ((2 ^ rk (F 2) (A 4) (A 6) (F 3).toNat : Nat) : Int)) {post : Option AV → AG → Prop} (hk : ∀ (b x : Int) (v9 : Option AV) (l8 l9 l10 l11 l75 l76 l77 l78 : List Int) (_ : l8.length = 30) (_ : l9.length = 30) (_ : l10.length = 30) (_ : l11.length = 30) (_ : l75.length = 6) (_ : l76.length = 6) (_ : l77.length = 30) (_ : l78.length = 30) (v14 v15 : Int), BEST g (vW A F (N_Q A 30) (F 9).toNat (N_Y A F 1) (rk (F 2) (A 4) (A 6)) p.toNat) (2 ^ rk (F 2) (A 4) (A 6) (F 3).toNat) b → R 80 (147, [some (vR 1), some (vI 1), some (vI p), some (vI g), some (vR 29), some (vI Y), some (vI ws), some (vI b), some (vI x), v9], [], LAY (u (u (u (u (u (u (u (u (shA A) 8 l8) 9 l9) 10 l10) 11 l11) 75 l75) 76 l76) 77 l77) 78 l78) (u (u (shF F) 14 v14) 15 v15), 0, 0) post) : R 80 (61, [some (vR 1), some (vI 1), some (vI p), some (vI g), some (vR 29), some (vI Y), some (vI ws), some (vI 0), some (vI 0), none], [], LAY (shA A) (shF F), 0, 0) post := by
  have hL := hR.1
  have hn := R_n hR
  have hn30 := R_n30 hR
  have hF := (D_at1 hR hd).1.1
  have hYb := N_Y_bd hR (d := 1) (by decide)
  rw [← hY] at hYb
  have h32 := pow_le5 (Nat.le_trans (rk_ck (F 2) (A 4) (A 6) (F 3).toNat) (ck5 hR))
  have hpos := Nat.two_pow_pos (rk (F 2) (A 4) (A 6) (F 3).toNat)
  have lp : ∀ (m i : Nat) (b : Int) (x : Int) (v9 : Option AV) (l8 : List Int) (l9 : List Int) (l10 : List Int) (l11 : List Int) (l75 : List Int) (l76 : List Int) (l77 : List Int) (l78 : List Int) (v14 : Int) (v15 : Int), x = (i : Int) → l8.length = 30 → l9.length = 30 → l10.length = 30 → l11.length = 30 → l75.length = 6 → l76.length = 6 → l77.length = 30 → l78.length = 30 → (i = 0 ∨ BEST g (vW A F (N_Q A 30) (F 9).toNat (N_Y A F 1) (rk (F 2) (A 4) (A 6)) p.toNat) i b) → i ≤ 2 ^ rk (F 2) (A 4) (A 6) (F 3).toNat → 2 ^ rk (F 2) (A 4) (A 6) (F 3).toNat + 1 ≤ i + m → R 80 (61, [some (vR 1), some (vI 1), some (vI p), some (vI g), some (vR 29), some (vI Y), some (vI ws), some (vI b), some (vI x), v9], [], LAY (u (u (u (u (u (u (u (u (shA A) 8 l8) 9 l9) 10 l10) 11 l11) 75 l75) 76 l76) 77 l77) 78 l78) (u (u (shF F) 14 v14) 15 v15), 0, 0) post := by
    intro m
    induction m with
    | zero =>
      intro i b x v9 l8 l9 l10 l11 l75 l76 l77 l78 v14 v15 ex hl8 hl9 hl10 hl11 hl75 hl76 hl77 hl78 hb hi hm
      exact absurd hm (by omega)
    | succ m ih =>
      intro i b x v9 l8 l9 l10 l11 l75 l76 l77 l78 v14 v15 ex hl8 hl9 hl10 hl11 hl75 hl76 hl77 hl78 hb hi hm
      refine R_s (P := True) (f' := (65, [some (vR 1), some (vI 1), some (vI p), some (vI g), some (vR 29), some (vI Y), some (vI ws), some (vI b), some (vI x), v9], [vI ws, vI x], LAY (u (u (u (u (u (u (u (u (shA A) 8 l8) 9 l9) 10 l10) 11 l11) 75 l75) 76 l76) 77 l77) 78 l78) (u (u (shF F) 14 v14) 15 v15), 0, 0)) hc80 2 rfl trivial ?_
      refine R_ic (t := 147) hc80 rfl rfl (fun (c1 : ws ≤ x) => ?_) (fun (c1 : ¬ (ws ≤ x)) => ?_)
      · exact hk b x v9 l8 l9 l10 l11 l75 l76 l77 l78 hl8 hl9 hl10 hl11 hl75 hl76 hl77 hl78 v14 v15 (by have z := hb.resolve_left (by omega); rw [show i = 2 ^ rk (F 2) (A 4) (A 6) (F 3).toNat by omega] at z; exact z)
      · refine R_s (P := True) (f' := (78, [some (vR 1), some (vI 1), some (vI p), some (vI g), some (vR 29), some (vI Y), some (vI ws), some (vI b), some (vI x), v9], [vI x, vI (F 2), vR 2], LAY (u (u (u (u (u (u (u (u (shA A) 8 l8) 9 l9) 10 l10) 11 l11) 75 l75) 76 l76) 77 l77) 78 l78) (u (u (shF F) 14 v14) 15 v15), 0, 0)) hc80 5 rfl trivial ?_
        refine R_cv hc80 rfl rfl (l_wakeWx (A := (u (u (u (u (u (u (u (u (shA A) 8 l8) 9 l9) 10 l10) 11 l11) 75 l75) 76 l76) 77 l77) 78 l78)) (F := (u (u (shF F) 14 v14) 15 v15)) (n := (F 3).toNat) (w := i) (al := (alW A F i (rk (F 2) (A 4) (A 6)))) (LENS_8 hL hl8 hl9 hl10 hl11 hl75 hl76 hl77 hl78) hn hn30 (R_TR (A := A) hR) ex (R_U (A := A) hR) (R_T (A := A) hR) (fun q hq => by show alW A F i _ q = _; unfold alW; rw [if_pos hq]; rfl)) (fun r G9 hp9 => ?_)
        obtain ⟨rfl, m8, m9, m10, rfl, hm8, hm9, hm10, hw⟩ := hp9
        obtain ⟨so, te, tp, mg, pm, lo, hS⟩ := SPL_ex A F (alW A F i (rk (F 2) (A 4) (A 6))) (N_Q A 30) (F 9).toNat Y
        have hV := SPL_V hS
        obtain ⟨s1, s2, s3, s4, s5, s6⟩ := hS
        refine R_s (f' := (81, [some (vR 1), some (vI 1), some (vI p), some (vI g), some (vR 29), some (vI Y), some (vI ws), some (vI b), some (vI x), v9], [], LAY (u (u (u (u (u (u (u (u (shA A) 11 l11) 75 l75) 76 l76) 77 l77) 78 l78) 8 m8) 9 m9) 10 m10) (u (u (shF F) 14 v14) 15 v15), 0, 0)) hc80 0 rfl trivial ?_
        refine R_s (P := True) (f' := (97, [some (vR 1), some (vI 1), some (vI p), some (vI g), some (vR 29), some (vI Y), some (vI ws), some (vI b), some (vI x), v9], [vI (F 2), vI Y, vR 29, vR 2, vR 74], LAY (u (u (u (u (u (u (u (u (shA A) 11 l11) 75 l75) 76 l76) 77 l77) 78 l78) 8 m8) 9 m9) 10 m10) (u (u (shF F) 14 v14) 15 v15), 0, 0)) hc80 8 rfl trivial ?_
        refine R_cv hc80 rfl rfl (l_reckon1 (A := (u (u (u (u (u (u (u (u (shA A) 8 m8) 9 m9) 10 m10) 11 l11) 75 l75) 76 l76) 77 l77) 78 l78)) (F := (u (u (shF F) 14 v14) 15 v15)) (n := (F 3).toNat) (LENS_8 hL hm8 hm9 hm10 hl11 hl75 hl76 hl77 hl78) hn hn30 (R_TR (A := A) hR) (al := (alW A F i (rk (F 2) (A 4) (A 6)))) (fun p hp => (hw p hp).1) (fun p _ => alW_01 p) (Q := N_Q A 30) (e := (F 9).toNat) (D_at1 hR hd).1 (by show F 9 = (((F 9).toNat : Nat) : Int); omega) rfl rfl rfl rfl rfl rfl rfl rfl (fun p hp => (hw p hp).2) (Y := Y) (yr := F 2) hYb (so := so) s1 (mg := mg) (pm := pm) (lo := lo) s2 s3 s4) (fun r G9 hp9 => ?_)
        obtain ⟨rfl, r11, r75, r76, r77, r78, rfl, hr11, hr75, hr76, hr77, hr78, z1, z2, z3⟩ := hp9
        have y77 : rd r77 p = vW A F (N_Q A 30) (F 9).toNat (N_Y A F 1) (rk (F 2) (A 4) (A 6)) p.toNat i := by
          have z := z3 p.toNat (by omega)
          rw [show ((p.toNat : Nat) : Int) = p by omega] at z
          have z4 := hV p.toNat
          rw [s6] at z4
          unfold vW
          rw [← hY, ← z4]
          have e : ((p.toNat : Nat) : Int) = p := by omega
          (try dsimp only)
          rw [e]
          exact z
        refine R_s (f' := (100, [some (vR 1), some (vI 1), some (vI p), some (vI g), some (vR 29), some (vI Y), some (vI ws), some (vI b), some (vI x), v9], [], LAY (u (u (u (u (u (u (u (u (shA A) 8 m8) 9 m9) 10 m10) 75 r75) 11 r11) 78 r78) 77 r77) 76 r76) (u (u (shF F) 14 mg) 15 lo), 0, 0)) hc80 0 rfl trivial ?_
        refine R_s (P := (0 ≤ p ∧ p < ((r77).length : Int)) ∧ True) (f' := (113, [some (vR 1), some (vI 1), some (vI p), some (vI g), some (vR 29), some (vI Y), some (vI ws), some (vI b), some (vI x), some (vI (rd r77 p))], [vI x], LAY (u (u (u (u (u (u (u (u (shA A) 8 m8) 9 m9) 10 m10) 75 r75) 11 r11) 78 r78) 77 r77) 76 r76) (u (u (shF F) 14 mg) 15 lo), 0, 0)) hc80 7 rfl ⟨⟨by omega, by omega⟩, trivial⟩ ?_
        refine R_if (t := 137) hc80 rfl rfl (fun (c2 : x = 0) => ?_) (fun (c2 : ¬ (x = 0)) => ?_)
        · refine R_s (P := inI (x + 1) ∧ True) (f' := (61, [some (vR 1), some (vI 1), some (vI p), some (vI g), some (vR 29), some (vI Y), some (vI ws), some (vI (rd r77 p)), some (vI (x + 1)), some (vI (rd r77 p))], [], LAY (u (u (u (u (u (u (u (u (shA A) 8 m8) 9 m9) 10 m10) 75 r75) 11 r11) 78 r78) 77 r77) 76 r76) (u (u (shF F) 14 mg) 15 lo), 0, 0)) hc80 4 rfl ⟨⟨by omega, by omega⟩, trivial⟩ ?_
          refine R_s (P := True) (f' := (61, [some (vR 1), some (vI 1), some (vI p), some (vI g), some (vR 29), some (vI Y), some (vI ws), some (vI (rd r77 p)), some (vI (x + 1)), some (vI (rd r77 p))], [], LAY (u (u (u (u (u (u (u (u (shA A) 8 m8) 9 m9) 10 m10) 11 r11) 75 r75) 76 r76) 77 r77) 78 r78) (u (u (shF F) 14 mg) 15 lo), 0, 0)) hc80 0 rfl trivial ?_
          refine ih (i + 1) _ _ _ _ _ _ _ _ _ _ _ _ _ (by omega) hm8 hm9 hm10 hr11 hr75 hr76 hr77 hr78 (.inr ?_) (by omega) (by omega)
          rw [y77]
          exact BEST_new hb (by rw [← y77]; omega)
        · refine R_s (P := True) (f' := (117, [some (vR 1), some (vI 1), some (vI p), some (vI g), some (vR 29), some (vI Y), some (vI ws), some (vI b), some (vI x), some (vI (rd r77 p))], [vI g], LAY (u (u (u (u (u (u (u (u (shA A) 8 m8) 9 m9) 10 m10) 75 r75) 11 r11) 78 r78) 77 r77) 76 r76) (u (u (shF F) 14 mg) 15 lo), 0, 0)) hc80 1 rfl trivial ?_
          refine R_if (t := 130) hc80 rfl rfl (fun (c3 : g = 0) => ?_) (fun (c3 : ¬ (g = 0)) => ?_)
          · refine R_s (P := True) (f' := (134, [some (vR 1), some (vI 1), some (vI p), some (vI g), some (vR 29), some (vI Y), some (vI ws), some (vI b), some (vI x), some (vI (rd r77 p))], [vI b, vI (rd r77 p)], LAY (u (u (u (u (u (u (u (u (shA A) 8 m8) 9 m9) 10 m10) 75 r75) 11 r11) 78 r78) 77 r77) 76 r76) (u (u (shF F) 14 mg) 15 lo), 0, 0)) hc80 2 rfl trivial ?_
            refine R_ic (t := 141) hc80 rfl rfl (fun (c4 : b ≤ rd r77 p) => ?_) (fun (c4 : ¬ (b ≤ rd r77 p)) => ?_)
            · refine R_s (P := inI (x + 1) ∧ True) (f' := (61, [some (vR 1), some (vI 1), some (vI p), some (vI g), some (vR 29), some (vI Y), some (vI ws), some (vI b), some (vI (x + 1)), some (vI (rd r77 p))], [], LAY (u (u (u (u (u (u (u (u (shA A) 8 m8) 9 m9) 10 m10) 75 r75) 11 r11) 78 r78) 77 r77) 76 r76) (u (u (shF F) 14 mg) 15 lo), 0, 0)) hc80 2 rfl ⟨⟨by omega, by omega⟩, trivial⟩ ?_
              refine R_s (P := True) (f' := (61, [some (vR 1), some (vI 1), some (vI p), some (vI g), some (vR 29), some (vI Y), some (vI ws), some (vI b), some (vI (x + 1)), some (vI (rd r77 p))], [], LAY (u (u (u (u (u (u (u (u (shA A) 8 m8) 9 m9) 10 m10) 11 r11) 75 r75) 76 r76) 77 r77) 78 r78) (u (u (shF F) 14 mg) 15 lo), 0, 0)) hc80 0 rfl trivial ?_
              refine ih (i + 1) _ _ _ _ _ _ _ _ _ _ _ _ _ (by omega) hm8 hm9 hm10 hr11 hr75 hr76 hr77 hr78 (.inr ?_) (by omega) (by omega)
              exact BEST_old (hb.resolve_left (by omega)) (by rw [← y77]; omega)
            · refine R_s (P := inI (x + 1) ∧ True) (f' := (61, [some (vR 1), some (vI 1), some (vI p), some (vI g), some (vR 29), some (vI Y), some (vI ws), some (vI (rd r77 p)), some (vI (x + 1)), some (vI (rd r77 p))], [], LAY (u (u (u (u (u (u (u (u (shA A) 8 m8) 9 m9) 10 m10) 75 r75) 11 r11) 78 r78) 77 r77) 76 r76) (u (u (shF F) 14 mg) 15 lo), 0, 0)) hc80 4 rfl ⟨⟨by omega, by omega⟩, trivial⟩ ?_
              refine R_s (P := True) (f' := (61, [some (vR 1), some (vI 1), some (vI p), some (vI g), some (vR 29), some (vI Y), some (vI ws), some (vI (rd r77 p)), some (vI (x + 1)), some (vI (rd r77 p))], [], LAY (u (u (u (u (u (u (u (u (shA A) 8 m8) 9 m9) 10 m10) 11 r11) 75 r75) 76 r76) 77 r77) 78 r78) (u (u (shF F) 14 mg) 15 lo), 0, 0)) hc80 0 rfl trivial ?_
              refine ih (i + 1) _ _ _ _ _ _ _ _ _ _ _ _ _ (by omega) hm8 hm9 hm10 hr11 hr75 hr76 hr77 hr78 (.inr ?_) (by omega) (by omega)
              rw [y77]
              exact BEST_new hb (by rw [← y77]; omega)
          · refine R_s (P := True) (f' := (124, [some (vR 1), some (vI 1), some (vI p), some (vI g), some (vR 29), some (vI Y), some (vI ws), some (vI b), some (vI x), some (vI (rd r77 p))], [vI b, vI (rd r77 p)], LAY (u (u (u (u (u (u (u (u (shA A) 8 m8) 9 m9) 10 m10) 75 r75) 11 r11) 78 r78) 77 r77) 76 r76) (u (u (shF F) 14 mg) 15 lo), 0, 0)) hc80 2 rfl trivial ?_
            refine R_ic (t := 141) hc80 rfl rfl (fun (c5 : rd r77 p ≤ b) => ?_) (fun (c5 : ¬ (rd r77 p ≤ b)) => ?_)
            · refine R_s (P := inI (x + 1) ∧ True) (f' := (61, [some (vR 1), some (vI 1), some (vI p), some (vI g), some (vR 29), some (vI Y), some (vI ws), some (vI b), some (vI (x + 1)), some (vI (rd r77 p))], [], LAY (u (u (u (u (u (u (u (u (shA A) 8 m8) 9 m9) 10 m10) 75 r75) 11 r11) 78 r78) 77 r77) 76 r76) (u (u (shF F) 14 mg) 15 lo), 0, 0)) hc80 2 rfl ⟨⟨by omega, by omega⟩, trivial⟩ ?_
              refine R_s (P := True) (f' := (61, [some (vR 1), some (vI 1), some (vI p), some (vI g), some (vR 29), some (vI Y), some (vI ws), some (vI b), some (vI (x + 1)), some (vI (rd r77 p))], [], LAY (u (u (u (u (u (u (u (u (shA A) 8 m8) 9 m9) 10 m10) 11 r11) 75 r75) 76 r76) 77 r77) 78 r78) (u (u (shF F) 14 mg) 15 lo), 0, 0)) hc80 0 rfl trivial ?_
              refine ih (i + 1) _ _ _ _ _ _ _ _ _ _ _ _ _ (by omega) hm8 hm9 hm10 hr11 hr75 hr76 hr77 hr78 (.inr ?_) (by omega) (by omega)
              exact BEST_old (hb.resolve_left (by omega)) (by rw [← y77]; omega)
            · refine R_s (P := inI (x + 1) ∧ True) (f' := (61, [some (vR 1), some (vI 1), some (vI p), some (vI g), some (vR 29), some (vI Y), some (vI ws), some (vI (rd r77 p)), some (vI (x + 1)), some (vI (rd r77 p))], [], LAY (u (u (u (u (u (u (u (u (shA A) 8 m8) 9 m9) 10 m10) 75 r75) 11 r11) 78 r78) 77 r77) 76 r76) (u (u (shF F) 14 mg) 15 lo), 0, 0)) hc80 5 rfl ⟨⟨by omega, by omega⟩, trivial⟩ ?_
              refine R_s (P := True) (f' := (61, [some (vR 1), some (vI 1), some (vI p), some (vI g), some (vR 29), some (vI Y), some (vI ws), some (vI (rd r77 p)), some (vI (x + 1)), some (vI (rd r77 p))], [], LAY (u (u (u (u (u (u (u (u (shA A) 8 m8) 9 m9) 10 m10) 11 r11) 75 r75) 76 r76) 77 r77) 78 r78) (u (u (shF F) 14 mg) 15 lo), 0, 0)) hc80 0 rfl trivial ?_
              refine ih (i + 1) _ _ _ _ _ _ _ _ _ _ _ _ _ (by omega) hm8 hm9 hm10 hr11 hr75 hr76 hr77 hr78 (.inr ?_) (by omega) (by omega)
              rw [y77]
              exact BEST_new hb (by rw [← y77]; omega)
  refine R_s (P := True) (f' := (61, [some (vR 1), some (vI 1), some (vI p), some (vI g), some (vR 29), some (vI Y), some (vI ws), some (vI 0), some (vI 0), none], [], LAY (u (u (u (u (u (u (u (u (shA A) 8 (A 8)) 9 (A 9)) 10 (A 10)) 11 (A 11)) 75 (A 75)) 76 (A 76)) 77 (A 77)) 78 (A 78)) (u (u (shF F) 14 (F 14)) 15 (F 15)), 0, 0)) hc80 0 rfl trivial ?_
  exact lp (2 ^ rk (F 2) (A 4) (A 6) (F 3).toNat + 1) 0 _ _ _ _ _ _ _ _ _ _ _ _ _ rfl (hL 8 (by decide)) (hL 9 (by decide)) (hL 10 (by decide)) (hL 11 (by decide)) (hL 75 (by decide)) (hL 76 (by decide)) (hL 77 (by decide)) (hL 78 (by decide)) (.inl rfl) (by omega) (by omega)

theorem bound_C2 {c : Int} {A : Nat → List Int} {F : Nat → Int} (hR : REL c A F) (hd : (2 : Int) < F 0) {p g ws Y : Int} (hp : 0 ≤ p ∧ p < F 3) (hY : Y = N_Y A F 2) (hws : ws = ((2 ^ rk (F 2) (A 4) (A 6) (F 3).toNat : Nat) : Int)) {post : Option AV → AG → Prop} (hk : ∀ (b x : Int) (v9 : Option AV) (l8 l9 l10 l11 l75 l76 l77 l78 : List Int) (_ : l8.length = 30) (_ : l9.length = 30) (_ : l10.length = 30) (_ : l11.length = 30) (_ : l75.length = 6) (_ : l76.length = 6) (_ : l77.length = 30) (_ : l78.length = 30) (v14 v15 : Int), BEST g (vW A F (N_Q A 39) (F 10).toNat (N_Y A F 2) (rk (F 2) (A 4) (A 6)) p.toNat) (2 ^ rk (F 2) (A 4) (A 6) (F 3).toNat) b → R 80 (147, [some (vR 1), some (vI 2), some (vI p), some (vI g), some (vR 38), some (vI Y), some (vI ws), some (vI b), some (vI x), v9], [], LAY (u (u (u (u (u (u (u (u (shA A) 8 l8) 9 l9) 10 l10) 11 l11) 75 l75) 76 l76) 77 l77) 78 l78) (u (u (shF F) 14 v14) 15 v15), 0, 0) post) : R 80 (61, [some (vR 1), some (vI 2), some (vI p), some (vI g), some (vR 38), some (vI Y), some (vI ws), some (vI 0), some (vI 0), none], [], LAY (shA A) (shF F), 0, 0) post := by
  have hL := hR.1
  have hn := R_n hR
  have hn30 := R_n30 hR
  have hF := (D_at2 hR hd).1.1
  have hYb := N_Y_bd hR (d := 2) (by decide)
  rw [← hY] at hYb
  have h32 := pow_le5 (Nat.le_trans (rk_ck (F 2) (A 4) (A 6) (F 3).toNat) (ck5 hR))
  have hpos := Nat.two_pow_pos (rk (F 2) (A 4) (A 6) (F 3).toNat)
  have lp : ∀ (m i : Nat) (b : Int) (x : Int) (v9 : Option AV) (l8 : List Int) (l9 : List Int) (l10 : List Int) (l11 : List Int) (l75 : List Int) (l76 : List Int) (l77 : List Int) (l78 : List Int) (v14 : Int) (v15 : Int), x = (i : Int) → l8.length = 30 → l9.length = 30 → l10.length = 30 → l11.length = 30 → l75.length = 6 → l76.length = 6 → l77.length = 30 → l78.length = 30 → (i = 0 ∨ BEST g (vW A F (N_Q A 39) (F 10).toNat (N_Y A F 2) (rk (F 2) (A 4) (A 6)) p.toNat) i b) → i ≤ 2 ^ rk (F 2) (A 4) (A 6) (F 3).toNat → 2 ^ rk (F 2) (A 4) (A 6) (F 3).toNat + 1 ≤ i + m → R 80 (61, [some (vR 1), some (vI 2), some (vI p), some (vI g), some (vR 38), some (vI Y), some (vI ws), some (vI b), some (vI x), v9], [], LAY (u (u (u (u (u (u (u (u (shA A) 8 l8) 9 l9) 10 l10) 11 l11) 75 l75) 76 l76) 77 l77) 78 l78) (u (u (shF F) 14 v14) 15 v15), 0, 0) post := by
    intro m
    induction m with
    | zero =>
      intro i b x v9 l8 l9 l10 l11 l75 l76 l77 l78 v14 v15 ex hl8 hl9 hl10 hl11 hl75 hl76 hl77 hl78 hb hi hm
      exact absurd hm (by omega)
    | succ m ih =>
      intro i b x v9 l8 l9 l10 l11 l75 l76 l77 l78 v14 v15 ex hl8 hl9 hl10 hl11 hl75 hl76 hl77 hl78 hb hi hm
      refine R_s (P := True) (f' := (65, [some (vR 1), some (vI 2), some (vI p), some (vI g), some (vR 38), some (vI Y), some (vI ws), some (vI b), some (vI x), v9], [vI ws, vI x], LAY (u (u (u (u (u (u (u (u (shA A) 8 l8) 9 l9) 10 l10) 11 l11) 75 l75) 76 l76) 77 l77) 78 l78) (u (u (shF F) 14 v14) 15 v15), 0, 0)) hc80 2 rfl trivial ?_
      refine R_ic (t := 147) hc80 rfl rfl (fun (c1 : ws ≤ x) => ?_) (fun (c1 : ¬ (ws ≤ x)) => ?_)
      · exact hk b x v9 l8 l9 l10 l11 l75 l76 l77 l78 hl8 hl9 hl10 hl11 hl75 hl76 hl77 hl78 v14 v15 (by have z := hb.resolve_left (by omega); rw [show i = 2 ^ rk (F 2) (A 4) (A 6) (F 3).toNat by omega] at z; exact z)
      · refine R_s (P := True) (f' := (78, [some (vR 1), some (vI 2), some (vI p), some (vI g), some (vR 38), some (vI Y), some (vI ws), some (vI b), some (vI x), v9], [vI x, vI (F 2), vR 2], LAY (u (u (u (u (u (u (u (u (shA A) 8 l8) 9 l9) 10 l10) 11 l11) 75 l75) 76 l76) 77 l77) 78 l78) (u (u (shF F) 14 v14) 15 v15), 0, 0)) hc80 5 rfl trivial ?_
        refine R_cv hc80 rfl rfl (l_wakeWx (A := (u (u (u (u (u (u (u (u (shA A) 8 l8) 9 l9) 10 l10) 11 l11) 75 l75) 76 l76) 77 l77) 78 l78)) (F := (u (u (shF F) 14 v14) 15 v15)) (n := (F 3).toNat) (w := i) (al := (alW A F i (rk (F 2) (A 4) (A 6)))) (LENS_8 hL hl8 hl9 hl10 hl11 hl75 hl76 hl77 hl78) hn hn30 (R_TR (A := A) hR) ex (R_U (A := A) hR) (R_T (A := A) hR) (fun q hq => by show alW A F i _ q = _; unfold alW; rw [if_pos hq]; rfl)) (fun r G9 hp9 => ?_)
        obtain ⟨rfl, m8, m9, m10, rfl, hm8, hm9, hm10, hw⟩ := hp9
        obtain ⟨so, te, tp, mg, pm, lo, hS⟩ := SPL_ex A F (alW A F i (rk (F 2) (A 4) (A 6))) (N_Q A 39) (F 10).toNat Y
        have hV := SPL_V hS
        obtain ⟨s1, s2, s3, s4, s5, s6⟩ := hS
        refine R_s (f' := (81, [some (vR 1), some (vI 2), some (vI p), some (vI g), some (vR 38), some (vI Y), some (vI ws), some (vI b), some (vI x), v9], [], LAY (u (u (u (u (u (u (u (u (shA A) 11 l11) 75 l75) 76 l76) 77 l77) 78 l78) 8 m8) 9 m9) 10 m10) (u (u (shF F) 14 v14) 15 v15), 0, 0)) hc80 0 rfl trivial ?_
        refine R_s (P := True) (f' := (97, [some (vR 1), some (vI 2), some (vI p), some (vI g), some (vR 38), some (vI Y), some (vI ws), some (vI b), some (vI x), v9], [vI (F 2), vI Y, vR 38, vR 2, vR 74], LAY (u (u (u (u (u (u (u (u (shA A) 11 l11) 75 l75) 76 l76) 77 l77) 78 l78) 8 m8) 9 m9) 10 m10) (u (u (shF F) 14 v14) 15 v15), 0, 0)) hc80 8 rfl trivial ?_
        refine R_cv hc80 rfl rfl (l_reckon2 (A := (u (u (u (u (u (u (u (u (shA A) 8 m8) 9 m9) 10 m10) 11 l11) 75 l75) 76 l76) 77 l77) 78 l78)) (F := (u (u (shF F) 14 v14) 15 v15)) (n := (F 3).toNat) (LENS_8 hL hm8 hm9 hm10 hl11 hl75 hl76 hl77 hl78) hn hn30 (R_TR (A := A) hR) (al := (alW A F i (rk (F 2) (A 4) (A 6)))) (fun p hp => (hw p hp).1) (fun p _ => alW_01 p) (Q := N_Q A 39) (e := (F 10).toNat) (D_at2 hR hd).1 (by show F 10 = (((F 10).toNat : Nat) : Int); omega) rfl rfl rfl rfl rfl rfl rfl rfl (fun p hp => (hw p hp).2) (Y := Y) (yr := F 2) hYb (so := so) s1 (mg := mg) (pm := pm) (lo := lo) s2 s3 s4) (fun r G9 hp9 => ?_)
        obtain ⟨rfl, r11, r75, r76, r77, r78, rfl, hr11, hr75, hr76, hr77, hr78, z1, z2, z3⟩ := hp9
        have y77 : rd r77 p = vW A F (N_Q A 39) (F 10).toNat (N_Y A F 2) (rk (F 2) (A 4) (A 6)) p.toNat i := by
          have z := z3 p.toNat (by omega)
          rw [show ((p.toNat : Nat) : Int) = p by omega] at z
          have z4 := hV p.toNat
          rw [s6] at z4
          unfold vW
          rw [← hY, ← z4]
          have e : ((p.toNat : Nat) : Int) = p := by omega
          (try dsimp only)
          rw [e]
          exact z
        refine R_s (f' := (100, [some (vR 1), some (vI 2), some (vI p), some (vI g), some (vR 38), some (vI Y), some (vI ws), some (vI b), some (vI x), v9], [], LAY (u (u (u (u (u (u (u (u (shA A) 8 m8) 9 m9) 10 m10) 75 r75) 11 r11) 78 r78) 77 r77) 76 r76) (u (u (shF F) 14 mg) 15 lo), 0, 0)) hc80 0 rfl trivial ?_
        refine R_s (P := (0 ≤ p ∧ p < ((r77).length : Int)) ∧ True) (f' := (113, [some (vR 1), some (vI 2), some (vI p), some (vI g), some (vR 38), some (vI Y), some (vI ws), some (vI b), some (vI x), some (vI (rd r77 p))], [vI x], LAY (u (u (u (u (u (u (u (u (shA A) 8 m8) 9 m9) 10 m10) 75 r75) 11 r11) 78 r78) 77 r77) 76 r76) (u (u (shF F) 14 mg) 15 lo), 0, 0)) hc80 7 rfl ⟨⟨by omega, by omega⟩, trivial⟩ ?_
        refine R_if (t := 137) hc80 rfl rfl (fun (c2 : x = 0) => ?_) (fun (c2 : ¬ (x = 0)) => ?_)
        · refine R_s (P := inI (x + 1) ∧ True) (f' := (61, [some (vR 1), some (vI 2), some (vI p), some (vI g), some (vR 38), some (vI Y), some (vI ws), some (vI (rd r77 p)), some (vI (x + 1)), some (vI (rd r77 p))], [], LAY (u (u (u (u (u (u (u (u (shA A) 8 m8) 9 m9) 10 m10) 75 r75) 11 r11) 78 r78) 77 r77) 76 r76) (u (u (shF F) 14 mg) 15 lo), 0, 0)) hc80 4 rfl ⟨⟨by omega, by omega⟩, trivial⟩ ?_
          refine R_s (P := True) (f' := (61, [some (vR 1), some (vI 2), some (vI p), some (vI g), some (vR 38), some (vI Y), some (vI ws), some (vI (rd r77 p)), some (vI (x + 1)), some (vI (rd r77 p))], [], LAY (u (u (u (u (u (u (u (u (shA A) 8 m8) 9 m9) 10 m10) 11 r11) 75 r75) 76 r76) 77 r77) 78 r78) (u (u (shF F) 14 mg) 15 lo), 0, 0)) hc80 0 rfl trivial ?_
          refine ih (i + 1) _ _ _ _ _ _ _ _ _ _ _ _ _ (by omega) hm8 hm9 hm10 hr11 hr75 hr76 hr77 hr78 (.inr ?_) (by omega) (by omega)
          rw [y77]
          exact BEST_new hb (by rw [← y77]; omega)
        · refine R_s (P := True) (f' := (117, [some (vR 1), some (vI 2), some (vI p), some (vI g), some (vR 38), some (vI Y), some (vI ws), some (vI b), some (vI x), some (vI (rd r77 p))], [vI g], LAY (u (u (u (u (u (u (u (u (shA A) 8 m8) 9 m9) 10 m10) 75 r75) 11 r11) 78 r78) 77 r77) 76 r76) (u (u (shF F) 14 mg) 15 lo), 0, 0)) hc80 1 rfl trivial ?_
          refine R_if (t := 130) hc80 rfl rfl (fun (c3 : g = 0) => ?_) (fun (c3 : ¬ (g = 0)) => ?_)
          · refine R_s (P := True) (f' := (134, [some (vR 1), some (vI 2), some (vI p), some (vI g), some (vR 38), some (vI Y), some (vI ws), some (vI b), some (vI x), some (vI (rd r77 p))], [vI b, vI (rd r77 p)], LAY (u (u (u (u (u (u (u (u (shA A) 8 m8) 9 m9) 10 m10) 75 r75) 11 r11) 78 r78) 77 r77) 76 r76) (u (u (shF F) 14 mg) 15 lo), 0, 0)) hc80 2 rfl trivial ?_
            refine R_ic (t := 141) hc80 rfl rfl (fun (c4 : b ≤ rd r77 p) => ?_) (fun (c4 : ¬ (b ≤ rd r77 p)) => ?_)
            · refine R_s (P := inI (x + 1) ∧ True) (f' := (61, [some (vR 1), some (vI 2), some (vI p), some (vI g), some (vR 38), some (vI Y), some (vI ws), some (vI b), some (vI (x + 1)), some (vI (rd r77 p))], [], LAY (u (u (u (u (u (u (u (u (shA A) 8 m8) 9 m9) 10 m10) 75 r75) 11 r11) 78 r78) 77 r77) 76 r76) (u (u (shF F) 14 mg) 15 lo), 0, 0)) hc80 2 rfl ⟨⟨by omega, by omega⟩, trivial⟩ ?_
              refine R_s (P := True) (f' := (61, [some (vR 1), some (vI 2), some (vI p), some (vI g), some (vR 38), some (vI Y), some (vI ws), some (vI b), some (vI (x + 1)), some (vI (rd r77 p))], [], LAY (u (u (u (u (u (u (u (u (shA A) 8 m8) 9 m9) 10 m10) 11 r11) 75 r75) 76 r76) 77 r77) 78 r78) (u (u (shF F) 14 mg) 15 lo), 0, 0)) hc80 0 rfl trivial ?_
              refine ih (i + 1) _ _ _ _ _ _ _ _ _ _ _ _ _ (by omega) hm8 hm9 hm10 hr11 hr75 hr76 hr77 hr78 (.inr ?_) (by omega) (by omega)
              exact BEST_old (hb.resolve_left (by omega)) (by rw [← y77]; omega)
            · refine R_s (P := inI (x + 1) ∧ True) (f' := (61, [some (vR 1), some (vI 2), some (vI p), some (vI g), some (vR 38), some (vI Y), some (vI ws), some (vI (rd r77 p)), some (vI (x + 1)), some (vI (rd r77 p))], [], LAY (u (u (u (u (u (u (u (u (shA A) 8 m8) 9 m9) 10 m10) 75 r75) 11 r11) 78 r78) 77 r77) 76 r76) (u (u (shF F) 14 mg) 15 lo), 0, 0)) hc80 4 rfl ⟨⟨by omega, by omega⟩, trivial⟩ ?_
              refine R_s (P := True) (f' := (61, [some (vR 1), some (vI 2), some (vI p), some (vI g), some (vR 38), some (vI Y), some (vI ws), some (vI (rd r77 p)), some (vI (x + 1)), some (vI (rd r77 p))], [], LAY (u (u (u (u (u (u (u (u (shA A) 8 m8) 9 m9) 10 m10) 11 r11) 75 r75) 76 r76) 77 r77) 78 r78) (u (u (shF F) 14 mg) 15 lo), 0, 0)) hc80 0 rfl trivial ?_
              refine ih (i + 1) _ _ _ _ _ _ _ _ _ _ _ _ _ (by omega) hm8 hm9 hm10 hr11 hr75 hr76 hr77 hr78 (.inr ?_) (by omega) (by omega)
              rw [y77]
              exact BEST_new hb (by rw [← y77]; omega)
          · refine R_s (P := True) (f' := (124, [some (vR 1), some (vI 2), some (vI p), some (vI g), some (vR 38), some (vI Y), some (vI ws), some (vI b), some (vI x), some (vI (rd r77 p))], [vI b, vI (rd r77 p)], LAY (u (u (u (u (u (u (u (u (shA A) 8 m8) 9 m9) 10 m10) 75 r75) 11 r11) 78 r78) 77 r77) 76 r76) (u (u (shF F) 14 mg) 15 lo), 0, 0)) hc80 2 rfl trivial ?_
            refine R_ic (t := 141) hc80 rfl rfl (fun (c5 : rd r77 p ≤ b) => ?_) (fun (c5 : ¬ (rd r77 p ≤ b)) => ?_)
            · refine R_s (P := inI (x + 1) ∧ True) (f' := (61, [some (vR 1), some (vI 2), some (vI p), some (vI g), some (vR 38), some (vI Y), some (vI ws), some (vI b), some (vI (x + 1)), some (vI (rd r77 p))], [], LAY (u (u (u (u (u (u (u (u (shA A) 8 m8) 9 m9) 10 m10) 75 r75) 11 r11) 78 r78) 77 r77) 76 r76) (u (u (shF F) 14 mg) 15 lo), 0, 0)) hc80 2 rfl ⟨⟨by omega, by omega⟩, trivial⟩ ?_
              refine R_s (P := True) (f' := (61, [some (vR 1), some (vI 2), some (vI p), some (vI g), some (vR 38), some (vI Y), some (vI ws), some (vI b), some (vI (x + 1)), some (vI (rd r77 p))], [], LAY (u (u (u (u (u (u (u (u (shA A) 8 m8) 9 m9) 10 m10) 11 r11) 75 r75) 76 r76) 77 r77) 78 r78) (u (u (shF F) 14 mg) 15 lo), 0, 0)) hc80 0 rfl trivial ?_
              refine ih (i + 1) _ _ _ _ _ _ _ _ _ _ _ _ _ (by omega) hm8 hm9 hm10 hr11 hr75 hr76 hr77 hr78 (.inr ?_) (by omega) (by omega)
              exact BEST_old (hb.resolve_left (by omega)) (by rw [← y77]; omega)
            · refine R_s (P := inI (x + 1) ∧ True) (f' := (61, [some (vR 1), some (vI 2), some (vI p), some (vI g), some (vR 38), some (vI Y), some (vI ws), some (vI (rd r77 p)), some (vI (x + 1)), some (vI (rd r77 p))], [], LAY (u (u (u (u (u (u (u (u (shA A) 8 m8) 9 m9) 10 m10) 75 r75) 11 r11) 78 r78) 77 r77) 76 r76) (u (u (shF F) 14 mg) 15 lo), 0, 0)) hc80 5 rfl ⟨⟨by omega, by omega⟩, trivial⟩ ?_
              refine R_s (P := True) (f' := (61, [some (vR 1), some (vI 2), some (vI p), some (vI g), some (vR 38), some (vI Y), some (vI ws), some (vI (rd r77 p)), some (vI (x + 1)), some (vI (rd r77 p))], [], LAY (u (u (u (u (u (u (u (u (shA A) 8 m8) 9 m9) 10 m10) 11 r11) 75 r75) 76 r76) 77 r77) 78 r78) (u (u (shF F) 14 mg) 15 lo), 0, 0)) hc80 0 rfl trivial ?_
              refine ih (i + 1) _ _ _ _ _ _ _ _ _ _ _ _ _ (by omega) hm8 hm9 hm10 hr11 hr75 hr76 hr77 hr78 (.inr ?_) (by omega) (by omega)
              rw [y77]
              exact BEST_new hb (by rw [← y77]; omega)
  refine R_s (P := True) (f' := (61, [some (vR 1), some (vI 2), some (vI p), some (vI g), some (vR 38), some (vI Y), some (vI ws), some (vI 0), some (vI 0), none], [], LAY (u (u (u (u (u (u (u (u (shA A) 8 (A 8)) 9 (A 9)) 10 (A 10)) 11 (A 11)) 75 (A 75)) 76 (A 76)) 77 (A 77)) 78 (A 78)) (u (u (shF F) 14 (F 14)) 15 (F 15)), 0, 0)) hc80 0 rfl trivial ?_
  exact lp (2 ^ rk (F 2) (A 4) (A 6) (F 3).toNat + 1) 0 _ _ _ _ _ _ _ _ _ _ _ _ _ rfl (hL 8 (by decide)) (hL 9 (by decide)) (hL 10 (by decide)) (hL 11 (by decide)) (hL 75 (by decide)) (hL 76 (by decide)) (hL 77 (by decide)) (hL 78 (by decide)) (.inl rfl) (by omega) (by omega)

theorem bound_C3 {c : Int} {A : Nat → List Int} {F : Nat → Int} (hR : REL c A F) (hd : (3 : Int) < F 0) {p g ws Y : Int} (hp : 0 ≤ p ∧ p < F 3) (hY : Y = N_Y A F 3) (hws : ws = ((2 ^ rk (F 2) (A 4) (A 6) (F 3).toNat : Nat) : Int)) {post : Option AV → AG → Prop} (hk : ∀ (b x : Int) (v9 : Option AV) (l8 l9 l10 l11 l75 l76 l77 l78 : List Int) (_ : l8.length = 30) (_ : l9.length = 30) (_ : l10.length = 30) (_ : l11.length = 30) (_ : l75.length = 6) (_ : l76.length = 6) (_ : l77.length = 30) (_ : l78.length = 30) (v14 v15 : Int), BEST g (vW A F (N_Q A 48) (F 11).toNat (N_Y A F 3) (rk (F 2) (A 4) (A 6)) p.toNat) (2 ^ rk (F 2) (A 4) (A 6) (F 3).toNat) b → R 80 (147, [some (vR 1), some (vI 3), some (vI p), some (vI g), some (vR 47), some (vI Y), some (vI ws), some (vI b), some (vI x), v9], [], LAY (u (u (u (u (u (u (u (u (shA A) 8 l8) 9 l9) 10 l10) 11 l11) 75 l75) 76 l76) 77 l77) 78 l78) (u (u (shF F) 14 v14) 15 v15), 0, 0) post) : R 80 (61, [some (vR 1), some (vI 3), some (vI p), some (vI g), some (vR 47), some (vI Y), some (vI ws), some (vI 0), some (vI 0), none], [], LAY (shA A) (shF F), 0, 0) post := by
  have hL := hR.1
  have hn := R_n hR
  have hn30 := R_n30 hR
  have hF := (D_at3 hR hd).1.1
  have hYb := N_Y_bd hR (d := 3) (by decide)
  rw [← hY] at hYb
  have h32 := pow_le5 (Nat.le_trans (rk_ck (F 2) (A 4) (A 6) (F 3).toNat) (ck5 hR))
  have hpos := Nat.two_pow_pos (rk (F 2) (A 4) (A 6) (F 3).toNat)
  have lp : ∀ (m i : Nat) (b : Int) (x : Int) (v9 : Option AV) (l8 : List Int) (l9 : List Int) (l10 : List Int) (l11 : List Int) (l75 : List Int) (l76 : List Int) (l77 : List Int) (l78 : List Int) (v14 : Int) (v15 : Int), x = (i : Int) → l8.length = 30 → l9.length = 30 → l10.length = 30 → l11.length = 30 → l75.length = 6 → l76.length = 6 → l77.length = 30 → l78.length = 30 → (i = 0 ∨ BEST g (vW A F (N_Q A 48) (F 11).toNat (N_Y A F 3) (rk (F 2) (A 4) (A 6)) p.toNat) i b) → i ≤ 2 ^ rk (F 2) (A 4) (A 6) (F 3).toNat → 2 ^ rk (F 2) (A 4) (A 6) (F 3).toNat + 1 ≤ i + m → R 80 (61, [some (vR 1), some (vI 3), some (vI p), some (vI g), some (vR 47), some (vI Y), some (vI ws), some (vI b), some (vI x), v9], [], LAY (u (u (u (u (u (u (u (u (shA A) 8 l8) 9 l9) 10 l10) 11 l11) 75 l75) 76 l76) 77 l77) 78 l78) (u (u (shF F) 14 v14) 15 v15), 0, 0) post := by
    intro m
    induction m with
    | zero =>
      intro i b x v9 l8 l9 l10 l11 l75 l76 l77 l78 v14 v15 ex hl8 hl9 hl10 hl11 hl75 hl76 hl77 hl78 hb hi hm
      exact absurd hm (by omega)
    | succ m ih =>
      intro i b x v9 l8 l9 l10 l11 l75 l76 l77 l78 v14 v15 ex hl8 hl9 hl10 hl11 hl75 hl76 hl77 hl78 hb hi hm
      refine R_s (P := True) (f' := (65, [some (vR 1), some (vI 3), some (vI p), some (vI g), some (vR 47), some (vI Y), some (vI ws), some (vI b), some (vI x), v9], [vI ws, vI x], LAY (u (u (u (u (u (u (u (u (shA A) 8 l8) 9 l9) 10 l10) 11 l11) 75 l75) 76 l76) 77 l77) 78 l78) (u (u (shF F) 14 v14) 15 v15), 0, 0)) hc80 2 rfl trivial ?_
      refine R_ic (t := 147) hc80 rfl rfl (fun (c1 : ws ≤ x) => ?_) (fun (c1 : ¬ (ws ≤ x)) => ?_)
      · exact hk b x v9 l8 l9 l10 l11 l75 l76 l77 l78 hl8 hl9 hl10 hl11 hl75 hl76 hl77 hl78 v14 v15 (by have z := hb.resolve_left (by omega); rw [show i = 2 ^ rk (F 2) (A 4) (A 6) (F 3).toNat by omega] at z; exact z)
      · refine R_s (P := True) (f' := (78, [some (vR 1), some (vI 3), some (vI p), some (vI g), some (vR 47), some (vI Y), some (vI ws), some (vI b), some (vI x), v9], [vI x, vI (F 2), vR 2], LAY (u (u (u (u (u (u (u (u (shA A) 8 l8) 9 l9) 10 l10) 11 l11) 75 l75) 76 l76) 77 l77) 78 l78) (u (u (shF F) 14 v14) 15 v15), 0, 0)) hc80 5 rfl trivial ?_
        refine R_cv hc80 rfl rfl (l_wakeWx (A := (u (u (u (u (u (u (u (u (shA A) 8 l8) 9 l9) 10 l10) 11 l11) 75 l75) 76 l76) 77 l77) 78 l78)) (F := (u (u (shF F) 14 v14) 15 v15)) (n := (F 3).toNat) (w := i) (al := (alW A F i (rk (F 2) (A 4) (A 6)))) (LENS_8 hL hl8 hl9 hl10 hl11 hl75 hl76 hl77 hl78) hn hn30 (R_TR (A := A) hR) ex (R_U (A := A) hR) (R_T (A := A) hR) (fun q hq => by show alW A F i _ q = _; unfold alW; rw [if_pos hq]; rfl)) (fun r G9 hp9 => ?_)
        obtain ⟨rfl, m8, m9, m10, rfl, hm8, hm9, hm10, hw⟩ := hp9
        obtain ⟨so, te, tp, mg, pm, lo, hS⟩ := SPL_ex A F (alW A F i (rk (F 2) (A 4) (A 6))) (N_Q A 48) (F 11).toNat Y
        have hV := SPL_V hS
        obtain ⟨s1, s2, s3, s4, s5, s6⟩ := hS
        refine R_s (f' := (81, [some (vR 1), some (vI 3), some (vI p), some (vI g), some (vR 47), some (vI Y), some (vI ws), some (vI b), some (vI x), v9], [], LAY (u (u (u (u (u (u (u (u (shA A) 11 l11) 75 l75) 76 l76) 77 l77) 78 l78) 8 m8) 9 m9) 10 m10) (u (u (shF F) 14 v14) 15 v15), 0, 0)) hc80 0 rfl trivial ?_
        refine R_s (P := True) (f' := (97, [some (vR 1), some (vI 3), some (vI p), some (vI g), some (vR 47), some (vI Y), some (vI ws), some (vI b), some (vI x), v9], [vI (F 2), vI Y, vR 47, vR 2, vR 74], LAY (u (u (u (u (u (u (u (u (shA A) 11 l11) 75 l75) 76 l76) 77 l77) 78 l78) 8 m8) 9 m9) 10 m10) (u (u (shF F) 14 v14) 15 v15), 0, 0)) hc80 8 rfl trivial ?_
        refine R_cv hc80 rfl rfl (l_reckon3 (A := (u (u (u (u (u (u (u (u (shA A) 8 m8) 9 m9) 10 m10) 11 l11) 75 l75) 76 l76) 77 l77) 78 l78)) (F := (u (u (shF F) 14 v14) 15 v15)) (n := (F 3).toNat) (LENS_8 hL hm8 hm9 hm10 hl11 hl75 hl76 hl77 hl78) hn hn30 (R_TR (A := A) hR) (al := (alW A F i (rk (F 2) (A 4) (A 6)))) (fun p hp => (hw p hp).1) (fun p _ => alW_01 p) (Q := N_Q A 48) (e := (F 11).toNat) (D_at3 hR hd).1 (by show F 11 = (((F 11).toNat : Nat) : Int); omega) rfl rfl rfl rfl rfl rfl rfl rfl (fun p hp => (hw p hp).2) (Y := Y) (yr := F 2) hYb (so := so) s1 (mg := mg) (pm := pm) (lo := lo) s2 s3 s4) (fun r G9 hp9 => ?_)
        obtain ⟨rfl, r11, r75, r76, r77, r78, rfl, hr11, hr75, hr76, hr77, hr78, z1, z2, z3⟩ := hp9
        have y77 : rd r77 p = vW A F (N_Q A 48) (F 11).toNat (N_Y A F 3) (rk (F 2) (A 4) (A 6)) p.toNat i := by
          have z := z3 p.toNat (by omega)
          rw [show ((p.toNat : Nat) : Int) = p by omega] at z
          have z4 := hV p.toNat
          rw [s6] at z4
          unfold vW
          rw [← hY, ← z4]
          have e : ((p.toNat : Nat) : Int) = p := by omega
          (try dsimp only)
          rw [e]
          exact z
        refine R_s (f' := (100, [some (vR 1), some (vI 3), some (vI p), some (vI g), some (vR 47), some (vI Y), some (vI ws), some (vI b), some (vI x), v9], [], LAY (u (u (u (u (u (u (u (u (shA A) 8 m8) 9 m9) 10 m10) 75 r75) 11 r11) 78 r78) 77 r77) 76 r76) (u (u (shF F) 14 mg) 15 lo), 0, 0)) hc80 0 rfl trivial ?_
        refine R_s (P := (0 ≤ p ∧ p < ((r77).length : Int)) ∧ True) (f' := (113, [some (vR 1), some (vI 3), some (vI p), some (vI g), some (vR 47), some (vI Y), some (vI ws), some (vI b), some (vI x), some (vI (rd r77 p))], [vI x], LAY (u (u (u (u (u (u (u (u (shA A) 8 m8) 9 m9) 10 m10) 75 r75) 11 r11) 78 r78) 77 r77) 76 r76) (u (u (shF F) 14 mg) 15 lo), 0, 0)) hc80 7 rfl ⟨⟨by omega, by omega⟩, trivial⟩ ?_
        refine R_if (t := 137) hc80 rfl rfl (fun (c2 : x = 0) => ?_) (fun (c2 : ¬ (x = 0)) => ?_)
        · refine R_s (P := inI (x + 1) ∧ True) (f' := (61, [some (vR 1), some (vI 3), some (vI p), some (vI g), some (vR 47), some (vI Y), some (vI ws), some (vI (rd r77 p)), some (vI (x + 1)), some (vI (rd r77 p))], [], LAY (u (u (u (u (u (u (u (u (shA A) 8 m8) 9 m9) 10 m10) 75 r75) 11 r11) 78 r78) 77 r77) 76 r76) (u (u (shF F) 14 mg) 15 lo), 0, 0)) hc80 4 rfl ⟨⟨by omega, by omega⟩, trivial⟩ ?_
          refine R_s (P := True) (f' := (61, [some (vR 1), some (vI 3), some (vI p), some (vI g), some (vR 47), some (vI Y), some (vI ws), some (vI (rd r77 p)), some (vI (x + 1)), some (vI (rd r77 p))], [], LAY (u (u (u (u (u (u (u (u (shA A) 8 m8) 9 m9) 10 m10) 11 r11) 75 r75) 76 r76) 77 r77) 78 r78) (u (u (shF F) 14 mg) 15 lo), 0, 0)) hc80 0 rfl trivial ?_
          refine ih (i + 1) _ _ _ _ _ _ _ _ _ _ _ _ _ (by omega) hm8 hm9 hm10 hr11 hr75 hr76 hr77 hr78 (.inr ?_) (by omega) (by omega)
          rw [y77]
          exact BEST_new hb (by rw [← y77]; omega)
        · refine R_s (P := True) (f' := (117, [some (vR 1), some (vI 3), some (vI p), some (vI g), some (vR 47), some (vI Y), some (vI ws), some (vI b), some (vI x), some (vI (rd r77 p))], [vI g], LAY (u (u (u (u (u (u (u (u (shA A) 8 m8) 9 m9) 10 m10) 75 r75) 11 r11) 78 r78) 77 r77) 76 r76) (u (u (shF F) 14 mg) 15 lo), 0, 0)) hc80 1 rfl trivial ?_
          refine R_if (t := 130) hc80 rfl rfl (fun (c3 : g = 0) => ?_) (fun (c3 : ¬ (g = 0)) => ?_)
          · refine R_s (P := True) (f' := (134, [some (vR 1), some (vI 3), some (vI p), some (vI g), some (vR 47), some (vI Y), some (vI ws), some (vI b), some (vI x), some (vI (rd r77 p))], [vI b, vI (rd r77 p)], LAY (u (u (u (u (u (u (u (u (shA A) 8 m8) 9 m9) 10 m10) 75 r75) 11 r11) 78 r78) 77 r77) 76 r76) (u (u (shF F) 14 mg) 15 lo), 0, 0)) hc80 2 rfl trivial ?_
            refine R_ic (t := 141) hc80 rfl rfl (fun (c4 : b ≤ rd r77 p) => ?_) (fun (c4 : ¬ (b ≤ rd r77 p)) => ?_)
            · refine R_s (P := inI (x + 1) ∧ True) (f' := (61, [some (vR 1), some (vI 3), some (vI p), some (vI g), some (vR 47), some (vI Y), some (vI ws), some (vI b), some (vI (x + 1)), some (vI (rd r77 p))], [], LAY (u (u (u (u (u (u (u (u (shA A) 8 m8) 9 m9) 10 m10) 75 r75) 11 r11) 78 r78) 77 r77) 76 r76) (u (u (shF F) 14 mg) 15 lo), 0, 0)) hc80 2 rfl ⟨⟨by omega, by omega⟩, trivial⟩ ?_
              refine R_s (P := True) (f' := (61, [some (vR 1), some (vI 3), some (vI p), some (vI g), some (vR 47), some (vI Y), some (vI ws), some (vI b), some (vI (x + 1)), some (vI (rd r77 p))], [], LAY (u (u (u (u (u (u (u (u (shA A) 8 m8) 9 m9) 10 m10) 11 r11) 75 r75) 76 r76) 77 r77) 78 r78) (u (u (shF F) 14 mg) 15 lo), 0, 0)) hc80 0 rfl trivial ?_
              refine ih (i + 1) _ _ _ _ _ _ _ _ _ _ _ _ _ (by omega) hm8 hm9 hm10 hr11 hr75 hr76 hr77 hr78 (.inr ?_) (by omega) (by omega)
              exact BEST_old (hb.resolve_left (by omega)) (by rw [← y77]; omega)
            · refine R_s (P := inI (x + 1) ∧ True) (f' := (61, [some (vR 1), some (vI 3), some (vI p), some (vI g), some (vR 47), some (vI Y), some (vI ws), some (vI (rd r77 p)), some (vI (x + 1)), some (vI (rd r77 p))], [], LAY (u (u (u (u (u (u (u (u (shA A) 8 m8) 9 m9) 10 m10) 75 r75) 11 r11) 78 r78) 77 r77) 76 r76) (u (u (shF F) 14 mg) 15 lo), 0, 0)) hc80 4 rfl ⟨⟨by omega, by omega⟩, trivial⟩ ?_
              refine R_s (P := True) (f' := (61, [some (vR 1), some (vI 3), some (vI p), some (vI g), some (vR 47), some (vI Y), some (vI ws), some (vI (rd r77 p)), some (vI (x + 1)), some (vI (rd r77 p))], [], LAY (u (u (u (u (u (u (u (u (shA A) 8 m8) 9 m9) 10 m10) 11 r11) 75 r75) 76 r76) 77 r77) 78 r78) (u (u (shF F) 14 mg) 15 lo), 0, 0)) hc80 0 rfl trivial ?_
              refine ih (i + 1) _ _ _ _ _ _ _ _ _ _ _ _ _ (by omega) hm8 hm9 hm10 hr11 hr75 hr76 hr77 hr78 (.inr ?_) (by omega) (by omega)
              rw [y77]
              exact BEST_new hb (by rw [← y77]; omega)
          · refine R_s (P := True) (f' := (124, [some (vR 1), some (vI 3), some (vI p), some (vI g), some (vR 47), some (vI Y), some (vI ws), some (vI b), some (vI x), some (vI (rd r77 p))], [vI b, vI (rd r77 p)], LAY (u (u (u (u (u (u (u (u (shA A) 8 m8) 9 m9) 10 m10) 75 r75) 11 r11) 78 r78) 77 r77) 76 r76) (u (u (shF F) 14 mg) 15 lo), 0, 0)) hc80 2 rfl trivial ?_
            refine R_ic (t := 141) hc80 rfl rfl (fun (c5 : rd r77 p ≤ b) => ?_) (fun (c5 : ¬ (rd r77 p ≤ b)) => ?_)
            · refine R_s (P := inI (x + 1) ∧ True) (f' := (61, [some (vR 1), some (vI 3), some (vI p), some (vI g), some (vR 47), some (vI Y), some (vI ws), some (vI b), some (vI (x + 1)), some (vI (rd r77 p))], [], LAY (u (u (u (u (u (u (u (u (shA A) 8 m8) 9 m9) 10 m10) 75 r75) 11 r11) 78 r78) 77 r77) 76 r76) (u (u (shF F) 14 mg) 15 lo), 0, 0)) hc80 2 rfl ⟨⟨by omega, by omega⟩, trivial⟩ ?_
              refine R_s (P := True) (f' := (61, [some (vR 1), some (vI 3), some (vI p), some (vI g), some (vR 47), some (vI Y), some (vI ws), some (vI b), some (vI (x + 1)), some (vI (rd r77 p))], [], LAY (u (u (u (u (u (u (u (u (shA A) 8 m8) 9 m9) 10 m10) 11 r11) 75 r75) 76 r76) 77 r77) 78 r78) (u (u (shF F) 14 mg) 15 lo), 0, 0)) hc80 0 rfl trivial ?_
              refine ih (i + 1) _ _ _ _ _ _ _ _ _ _ _ _ _ (by omega) hm8 hm9 hm10 hr11 hr75 hr76 hr77 hr78 (.inr ?_) (by omega) (by omega)
              exact BEST_old (hb.resolve_left (by omega)) (by rw [← y77]; omega)
            · refine R_s (P := inI (x + 1) ∧ True) (f' := (61, [some (vR 1), some (vI 3), some (vI p), some (vI g), some (vR 47), some (vI Y), some (vI ws), some (vI (rd r77 p)), some (vI (x + 1)), some (vI (rd r77 p))], [], LAY (u (u (u (u (u (u (u (u (shA A) 8 m8) 9 m9) 10 m10) 75 r75) 11 r11) 78 r78) 77 r77) 76 r76) (u (u (shF F) 14 mg) 15 lo), 0, 0)) hc80 5 rfl ⟨⟨by omega, by omega⟩, trivial⟩ ?_
              refine R_s (P := True) (f' := (61, [some (vR 1), some (vI 3), some (vI p), some (vI g), some (vR 47), some (vI Y), some (vI ws), some (vI (rd r77 p)), some (vI (x + 1)), some (vI (rd r77 p))], [], LAY (u (u (u (u (u (u (u (u (shA A) 8 m8) 9 m9) 10 m10) 11 r11) 75 r75) 76 r76) 77 r77) 78 r78) (u (u (shF F) 14 mg) 15 lo), 0, 0)) hc80 0 rfl trivial ?_
              refine ih (i + 1) _ _ _ _ _ _ _ _ _ _ _ _ _ (by omega) hm8 hm9 hm10 hr11 hr75 hr76 hr77 hr78 (.inr ?_) (by omega) (by omega)
              rw [y77]
              exact BEST_new hb (by rw [← y77]; omega)
  refine R_s (P := True) (f' := (61, [some (vR 1), some (vI 3), some (vI p), some (vI g), some (vR 47), some (vI Y), some (vI ws), some (vI 0), some (vI 0), none], [], LAY (u (u (u (u (u (u (u (u (shA A) 8 (A 8)) 9 (A 9)) 10 (A 10)) 11 (A 11)) 75 (A 75)) 76 (A 76)) 77 (A 77)) 78 (A 78)) (u (u (shF F) 14 (F 14)) 15 (F 15)), 0, 0)) hc80 0 rfl trivial ?_
  exact lp (2 ^ rk (F 2) (A 4) (A 6) (F 3).toNat + 1) 0 _ _ _ _ _ _ _ _ _ _ _ _ _ rfl (hL 8 (by decide)) (hL 9 (by decide)) (hL 10 (by decide)) (hL 11 (by decide)) (hL 75 (by decide)) (hL 76 (by decide)) (hL 77 (by decide)) (hL 78 (by decide)) (.inl rfl) (by omega) (by omega)

theorem bound_C4 {c : Int} {A : Nat → List Int} {F : Nat → Int} (hR : REL c A F) (hd : (4 : Int) < F 0) {p g ws Y : Int} (hp : 0 ≤ p ∧ p < F 3) (hY : Y = N_Y A F 4) (hws : ws = ((2 ^ rk (F 2) (A 4) (A 6) (F 3).toNat : Nat) : Int)) {post : Option AV → AG → Prop} (hk : ∀ (b x : Int) (v9 : Option AV) (l8 l9 l10 l11 l75 l76 l77 l78 : List Int) (_ : l8.length = 30) (_ : l9.length = 30) (_ : l10.length = 30) (_ : l11.length = 30) (_ : l75.length = 6) (_ : l76.length = 6) (_ : l77.length = 30) (_ : l78.length = 30) (v14 v15 : Int), BEST g (vW A F (N_Q A 57) (F 12).toNat (N_Y A F 4) (rk (F 2) (A 4) (A 6)) p.toNat) (2 ^ rk (F 2) (A 4) (A 6) (F 3).toNat) b → R 80 (147, [some (vR 1), some (vI 4), some (vI p), some (vI g), some (vR 56), some (vI Y), some (vI ws), some (vI b), some (vI x), v9], [], LAY (u (u (u (u (u (u (u (u (shA A) 8 l8) 9 l9) 10 l10) 11 l11) 75 l75) 76 l76) 77 l77) 78 l78) (u (u (shF F) 14 v14) 15 v15), 0, 0) post) : R 80 (61, [some (vR 1), some (vI 4), some (vI p), some (vI g), some (vR 56), some (vI Y), some (vI ws), some (vI 0), some (vI 0), none], [], LAY (shA A) (shF F), 0, 0) post := by
  have hL := hR.1
  have hn := R_n hR
  have hn30 := R_n30 hR
  have hF := (D_at4 hR hd).1.1
  have hYb := N_Y_bd hR (d := 4) (by decide)
  rw [← hY] at hYb
  have h32 := pow_le5 (Nat.le_trans (rk_ck (F 2) (A 4) (A 6) (F 3).toNat) (ck5 hR))
  have hpos := Nat.two_pow_pos (rk (F 2) (A 4) (A 6) (F 3).toNat)
  have lp : ∀ (m i : Nat) (b : Int) (x : Int) (v9 : Option AV) (l8 : List Int) (l9 : List Int) (l10 : List Int) (l11 : List Int) (l75 : List Int) (l76 : List Int) (l77 : List Int) (l78 : List Int) (v14 : Int) (v15 : Int), x = (i : Int) → l8.length = 30 → l9.length = 30 → l10.length = 30 → l11.length = 30 → l75.length = 6 → l76.length = 6 → l77.length = 30 → l78.length = 30 → (i = 0 ∨ BEST g (vW A F (N_Q A 57) (F 12).toNat (N_Y A F 4) (rk (F 2) (A 4) (A 6)) p.toNat) i b) → i ≤ 2 ^ rk (F 2) (A 4) (A 6) (F 3).toNat → 2 ^ rk (F 2) (A 4) (A 6) (F 3).toNat + 1 ≤ i + m → R 80 (61, [some (vR 1), some (vI 4), some (vI p), some (vI g), some (vR 56), some (vI Y), some (vI ws), some (vI b), some (vI x), v9], [], LAY (u (u (u (u (u (u (u (u (shA A) 8 l8) 9 l9) 10 l10) 11 l11) 75 l75) 76 l76) 77 l77) 78 l78) (u (u (shF F) 14 v14) 15 v15), 0, 0) post := by
    intro m
    induction m with
    | zero =>
      intro i b x v9 l8 l9 l10 l11 l75 l76 l77 l78 v14 v15 ex hl8 hl9 hl10 hl11 hl75 hl76 hl77 hl78 hb hi hm
      exact absurd hm (by omega)
    | succ m ih =>
      intro i b x v9 l8 l9 l10 l11 l75 l76 l77 l78 v14 v15 ex hl8 hl9 hl10 hl11 hl75 hl76 hl77 hl78 hb hi hm
      refine R_s (P := True) (f' := (65, [some (vR 1), some (vI 4), some (vI p), some (vI g), some (vR 56), some (vI Y), some (vI ws), some (vI b), some (vI x), v9], [vI ws, vI x], LAY (u (u (u (u (u (u (u (u (shA A) 8 l8) 9 l9) 10 l10) 11 l11) 75 l75) 76 l76) 77 l77) 78 l78) (u (u (shF F) 14 v14) 15 v15), 0, 0)) hc80 2 rfl trivial ?_
      refine R_ic (t := 147) hc80 rfl rfl (fun (c1 : ws ≤ x) => ?_) (fun (c1 : ¬ (ws ≤ x)) => ?_)
      · exact hk b x v9 l8 l9 l10 l11 l75 l76 l77 l78 hl8 hl9 hl10 hl11 hl75 hl76 hl77 hl78 v14 v15 (by have z := hb.resolve_left (by omega); rw [show i = 2 ^ rk (F 2) (A 4) (A 6) (F 3).toNat by omega] at z; exact z)
      · refine R_s (P := True) (f' := (78, [some (vR 1), some (vI 4), some (vI p), some (vI g), some (vR 56), some (vI Y), some (vI ws), some (vI b), some (vI x), v9], [vI x, vI (F 2), vR 2], LAY (u (u (u (u (u (u (u (u (shA A) 8 l8) 9 l9) 10 l10) 11 l11) 75 l75) 76 l76) 77 l77) 78 l78) (u (u (shF F) 14 v14) 15 v15), 0, 0)) hc80 5 rfl trivial ?_
        refine R_cv hc80 rfl rfl (l_wakeWx (A := (u (u (u (u (u (u (u (u (shA A) 8 l8) 9 l9) 10 l10) 11 l11) 75 l75) 76 l76) 77 l77) 78 l78)) (F := (u (u (shF F) 14 v14) 15 v15)) (n := (F 3).toNat) (w := i) (al := (alW A F i (rk (F 2) (A 4) (A 6)))) (LENS_8 hL hl8 hl9 hl10 hl11 hl75 hl76 hl77 hl78) hn hn30 (R_TR (A := A) hR) ex (R_U (A := A) hR) (R_T (A := A) hR) (fun q hq => by show alW A F i _ q = _; unfold alW; rw [if_pos hq]; rfl)) (fun r G9 hp9 => ?_)
        obtain ⟨rfl, m8, m9, m10, rfl, hm8, hm9, hm10, hw⟩ := hp9
        obtain ⟨so, te, tp, mg, pm, lo, hS⟩ := SPL_ex A F (alW A F i (rk (F 2) (A 4) (A 6))) (N_Q A 57) (F 12).toNat Y
        have hV := SPL_V hS
        obtain ⟨s1, s2, s3, s4, s5, s6⟩ := hS
        refine R_s (f' := (81, [some (vR 1), some (vI 4), some (vI p), some (vI g), some (vR 56), some (vI Y), some (vI ws), some (vI b), some (vI x), v9], [], LAY (u (u (u (u (u (u (u (u (shA A) 11 l11) 75 l75) 76 l76) 77 l77) 78 l78) 8 m8) 9 m9) 10 m10) (u (u (shF F) 14 v14) 15 v15), 0, 0)) hc80 0 rfl trivial ?_
        refine R_s (P := True) (f' := (97, [some (vR 1), some (vI 4), some (vI p), some (vI g), some (vR 56), some (vI Y), some (vI ws), some (vI b), some (vI x), v9], [vI (F 2), vI Y, vR 56, vR 2, vR 74], LAY (u (u (u (u (u (u (u (u (shA A) 11 l11) 75 l75) 76 l76) 77 l77) 78 l78) 8 m8) 9 m9) 10 m10) (u (u (shF F) 14 v14) 15 v15), 0, 0)) hc80 8 rfl trivial ?_
        refine R_cv hc80 rfl rfl (l_reckon4 (A := (u (u (u (u (u (u (u (u (shA A) 8 m8) 9 m9) 10 m10) 11 l11) 75 l75) 76 l76) 77 l77) 78 l78)) (F := (u (u (shF F) 14 v14) 15 v15)) (n := (F 3).toNat) (LENS_8 hL hm8 hm9 hm10 hl11 hl75 hl76 hl77 hl78) hn hn30 (R_TR (A := A) hR) (al := (alW A F i (rk (F 2) (A 4) (A 6)))) (fun p hp => (hw p hp).1) (fun p _ => alW_01 p) (Q := N_Q A 57) (e := (F 12).toNat) (D_at4 hR hd).1 (by show F 12 = (((F 12).toNat : Nat) : Int); omega) rfl rfl rfl rfl rfl rfl rfl rfl (fun p hp => (hw p hp).2) (Y := Y) (yr := F 2) hYb (so := so) s1 (mg := mg) (pm := pm) (lo := lo) s2 s3 s4) (fun r G9 hp9 => ?_)
        obtain ⟨rfl, r11, r75, r76, r77, r78, rfl, hr11, hr75, hr76, hr77, hr78, z1, z2, z3⟩ := hp9
        have y77 : rd r77 p = vW A F (N_Q A 57) (F 12).toNat (N_Y A F 4) (rk (F 2) (A 4) (A 6)) p.toNat i := by
          have z := z3 p.toNat (by omega)
          rw [show ((p.toNat : Nat) : Int) = p by omega] at z
          have z4 := hV p.toNat
          rw [s6] at z4
          unfold vW
          rw [← hY, ← z4]
          have e : ((p.toNat : Nat) : Int) = p := by omega
          (try dsimp only)
          rw [e]
          exact z
        refine R_s (f' := (100, [some (vR 1), some (vI 4), some (vI p), some (vI g), some (vR 56), some (vI Y), some (vI ws), some (vI b), some (vI x), v9], [], LAY (u (u (u (u (u (u (u (u (shA A) 8 m8) 9 m9) 10 m10) 75 r75) 11 r11) 78 r78) 77 r77) 76 r76) (u (u (shF F) 14 mg) 15 lo), 0, 0)) hc80 0 rfl trivial ?_
        refine R_s (P := (0 ≤ p ∧ p < ((r77).length : Int)) ∧ True) (f' := (113, [some (vR 1), some (vI 4), some (vI p), some (vI g), some (vR 56), some (vI Y), some (vI ws), some (vI b), some (vI x), some (vI (rd r77 p))], [vI x], LAY (u (u (u (u (u (u (u (u (shA A) 8 m8) 9 m9) 10 m10) 75 r75) 11 r11) 78 r78) 77 r77) 76 r76) (u (u (shF F) 14 mg) 15 lo), 0, 0)) hc80 7 rfl ⟨⟨by omega, by omega⟩, trivial⟩ ?_
        refine R_if (t := 137) hc80 rfl rfl (fun (c2 : x = 0) => ?_) (fun (c2 : ¬ (x = 0)) => ?_)
        · refine R_s (P := inI (x + 1) ∧ True) (f' := (61, [some (vR 1), some (vI 4), some (vI p), some (vI g), some (vR 56), some (vI Y), some (vI ws), some (vI (rd r77 p)), some (vI (x + 1)), some (vI (rd r77 p))], [], LAY (u (u (u (u (u (u (u (u (shA A) 8 m8) 9 m9) 10 m10) 75 r75) 11 r11) 78 r78) 77 r77) 76 r76) (u (u (shF F) 14 mg) 15 lo), 0, 0)) hc80 4 rfl ⟨⟨by omega, by omega⟩, trivial⟩ ?_
          refine R_s (P := True) (f' := (61, [some (vR 1), some (vI 4), some (vI p), some (vI g), some (vR 56), some (vI Y), some (vI ws), some (vI (rd r77 p)), some (vI (x + 1)), some (vI (rd r77 p))], [], LAY (u (u (u (u (u (u (u (u (shA A) 8 m8) 9 m9) 10 m10) 11 r11) 75 r75) 76 r76) 77 r77) 78 r78) (u (u (shF F) 14 mg) 15 lo), 0, 0)) hc80 0 rfl trivial ?_
          refine ih (i + 1) _ _ _ _ _ _ _ _ _ _ _ _ _ (by omega) hm8 hm9 hm10 hr11 hr75 hr76 hr77 hr78 (.inr ?_) (by omega) (by omega)
          rw [y77]
          exact BEST_new hb (by rw [← y77]; omega)
        · refine R_s (P := True) (f' := (117, [some (vR 1), some (vI 4), some (vI p), some (vI g), some (vR 56), some (vI Y), some (vI ws), some (vI b), some (vI x), some (vI (rd r77 p))], [vI g], LAY (u (u (u (u (u (u (u (u (shA A) 8 m8) 9 m9) 10 m10) 75 r75) 11 r11) 78 r78) 77 r77) 76 r76) (u (u (shF F) 14 mg) 15 lo), 0, 0)) hc80 1 rfl trivial ?_
          refine R_if (t := 130) hc80 rfl rfl (fun (c3 : g = 0) => ?_) (fun (c3 : ¬ (g = 0)) => ?_)
          · refine R_s (P := True) (f' := (134, [some (vR 1), some (vI 4), some (vI p), some (vI g), some (vR 56), some (vI Y), some (vI ws), some (vI b), some (vI x), some (vI (rd r77 p))], [vI b, vI (rd r77 p)], LAY (u (u (u (u (u (u (u (u (shA A) 8 m8) 9 m9) 10 m10) 75 r75) 11 r11) 78 r78) 77 r77) 76 r76) (u (u (shF F) 14 mg) 15 lo), 0, 0)) hc80 2 rfl trivial ?_
            refine R_ic (t := 141) hc80 rfl rfl (fun (c4 : b ≤ rd r77 p) => ?_) (fun (c4 : ¬ (b ≤ rd r77 p)) => ?_)
            · refine R_s (P := inI (x + 1) ∧ True) (f' := (61, [some (vR 1), some (vI 4), some (vI p), some (vI g), some (vR 56), some (vI Y), some (vI ws), some (vI b), some (vI (x + 1)), some (vI (rd r77 p))], [], LAY (u (u (u (u (u (u (u (u (shA A) 8 m8) 9 m9) 10 m10) 75 r75) 11 r11) 78 r78) 77 r77) 76 r76) (u (u (shF F) 14 mg) 15 lo), 0, 0)) hc80 2 rfl ⟨⟨by omega, by omega⟩, trivial⟩ ?_
              refine R_s (P := True) (f' := (61, [some (vR 1), some (vI 4), some (vI p), some (vI g), some (vR 56), some (vI Y), some (vI ws), some (vI b), some (vI (x + 1)), some (vI (rd r77 p))], [], LAY (u (u (u (u (u (u (u (u (shA A) 8 m8) 9 m9) 10 m10) 11 r11) 75 r75) 76 r76) 77 r77) 78 r78) (u (u (shF F) 14 mg) 15 lo), 0, 0)) hc80 0 rfl trivial ?_
              refine ih (i + 1) _ _ _ _ _ _ _ _ _ _ _ _ _ (by omega) hm8 hm9 hm10 hr11 hr75 hr76 hr77 hr78 (.inr ?_) (by omega) (by omega)
              exact BEST_old (hb.resolve_left (by omega)) (by rw [← y77]; omega)
            · refine R_s (P := inI (x + 1) ∧ True) (f' := (61, [some (vR 1), some (vI 4), some (vI p), some (vI g), some (vR 56), some (vI Y), some (vI ws), some (vI (rd r77 p)), some (vI (x + 1)), some (vI (rd r77 p))], [], LAY (u (u (u (u (u (u (u (u (shA A) 8 m8) 9 m9) 10 m10) 75 r75) 11 r11) 78 r78) 77 r77) 76 r76) (u (u (shF F) 14 mg) 15 lo), 0, 0)) hc80 4 rfl ⟨⟨by omega, by omega⟩, trivial⟩ ?_
              refine R_s (P := True) (f' := (61, [some (vR 1), some (vI 4), some (vI p), some (vI g), some (vR 56), some (vI Y), some (vI ws), some (vI (rd r77 p)), some (vI (x + 1)), some (vI (rd r77 p))], [], LAY (u (u (u (u (u (u (u (u (shA A) 8 m8) 9 m9) 10 m10) 11 r11) 75 r75) 76 r76) 77 r77) 78 r78) (u (u (shF F) 14 mg) 15 lo), 0, 0)) hc80 0 rfl trivial ?_
              refine ih (i + 1) _ _ _ _ _ _ _ _ _ _ _ _ _ (by omega) hm8 hm9 hm10 hr11 hr75 hr76 hr77 hr78 (.inr ?_) (by omega) (by omega)
              rw [y77]
              exact BEST_new hb (by rw [← y77]; omega)
          · refine R_s (P := True) (f' := (124, [some (vR 1), some (vI 4), some (vI p), some (vI g), some (vR 56), some (vI Y), some (vI ws), some (vI b), some (vI x), some (vI (rd r77 p))], [vI b, vI (rd r77 p)], LAY (u (u (u (u (u (u (u (u (shA A) 8 m8) 9 m9) 10 m10) 75 r75) 11 r11) 78 r78) 77 r77) 76 r76) (u (u (shF F) 14 mg) 15 lo), 0, 0)) hc80 2 rfl trivial ?_
            refine R_ic (t := 141) hc80 rfl rfl (fun (c5 : rd r77 p ≤ b) => ?_) (fun (c5 : ¬ (rd r77 p ≤ b)) => ?_)
            · refine R_s (P := inI (x + 1) ∧ True) (f' := (61, [some (vR 1), some (vI 4), some (vI p), some (vI g), some (vR 56), some (vI Y), some (vI ws), some (vI b), some (vI (x + 1)), some (vI (rd r77 p))], [], LAY (u (u (u (u (u (u (u (u (shA A) 8 m8) 9 m9) 10 m10) 75 r75) 11 r11) 78 r78) 77 r77) 76 r76) (u (u (shF F) 14 mg) 15 lo), 0, 0)) hc80 2 rfl ⟨⟨by omega, by omega⟩, trivial⟩ ?_
              refine R_s (P := True) (f' := (61, [some (vR 1), some (vI 4), some (vI p), some (vI g), some (vR 56), some (vI Y), some (vI ws), some (vI b), some (vI (x + 1)), some (vI (rd r77 p))], [], LAY (u (u (u (u (u (u (u (u (shA A) 8 m8) 9 m9) 10 m10) 11 r11) 75 r75) 76 r76) 77 r77) 78 r78) (u (u (shF F) 14 mg) 15 lo), 0, 0)) hc80 0 rfl trivial ?_
              refine ih (i + 1) _ _ _ _ _ _ _ _ _ _ _ _ _ (by omega) hm8 hm9 hm10 hr11 hr75 hr76 hr77 hr78 (.inr ?_) (by omega) (by omega)
              exact BEST_old (hb.resolve_left (by omega)) (by rw [← y77]; omega)
            · refine R_s (P := inI (x + 1) ∧ True) (f' := (61, [some (vR 1), some (vI 4), some (vI p), some (vI g), some (vR 56), some (vI Y), some (vI ws), some (vI (rd r77 p)), some (vI (x + 1)), some (vI (rd r77 p))], [], LAY (u (u (u (u (u (u (u (u (shA A) 8 m8) 9 m9) 10 m10) 75 r75) 11 r11) 78 r78) 77 r77) 76 r76) (u (u (shF F) 14 mg) 15 lo), 0, 0)) hc80 5 rfl ⟨⟨by omega, by omega⟩, trivial⟩ ?_
              refine R_s (P := True) (f' := (61, [some (vR 1), some (vI 4), some (vI p), some (vI g), some (vR 56), some (vI Y), some (vI ws), some (vI (rd r77 p)), some (vI (x + 1)), some (vI (rd r77 p))], [], LAY (u (u (u (u (u (u (u (u (shA A) 8 m8) 9 m9) 10 m10) 11 r11) 75 r75) 76 r76) 77 r77) 78 r78) (u (u (shF F) 14 mg) 15 lo), 0, 0)) hc80 0 rfl trivial ?_
              refine ih (i + 1) _ _ _ _ _ _ _ _ _ _ _ _ _ (by omega) hm8 hm9 hm10 hr11 hr75 hr76 hr77 hr78 (.inr ?_) (by omega) (by omega)
              rw [y77]
              exact BEST_new hb (by rw [← y77]; omega)
  refine R_s (P := True) (f' := (61, [some (vR 1), some (vI 4), some (vI p), some (vI g), some (vR 56), some (vI Y), some (vI ws), some (vI 0), some (vI 0), none], [], LAY (u (u (u (u (u (u (u (u (shA A) 8 (A 8)) 9 (A 9)) 10 (A 10)) 11 (A 11)) 75 (A 75)) 76 (A 76)) 77 (A 77)) 78 (A 78)) (u (u (shF F) 14 (F 14)) 15 (F 15)), 0, 0)) hc80 0 rfl trivial ?_
  exact lp (2 ^ rk (F 2) (A 4) (A 6) (F 3).toNat + 1) 0 _ _ _ _ _ _ _ _ _ _ _ _ _ rfl (hL 8 (by decide)) (hL 9 (by decide)) (hL 10 (by decide)) (hL 11 (by decide)) (hL 75 (by decide)) (hL 76 (by decide)) (hL 77 (by decide)) (hL 78 (by decide)) (.inl rfl) (by omega) (by omega)

theorem bound_C5 {c : Int} {A : Nat → List Int} {F : Nat → Int} (hR : REL c A F) (hd : (5 : Int) < F 0) {p g ws Y : Int} (hp : 0 ≤ p ∧ p < F 3) (hY : Y = N_Y A F 5) (hws : ws = ((2 ^ rk (F 2) (A 4) (A 6) (F 3).toNat : Nat) : Int)) {post : Option AV → AG → Prop} (hk : ∀ (b x : Int) (v9 : Option AV) (l8 l9 l10 l11 l75 l76 l77 l78 : List Int) (_ : l8.length = 30) (_ : l9.length = 30) (_ : l10.length = 30) (_ : l11.length = 30) (_ : l75.length = 6) (_ : l76.length = 6) (_ : l77.length = 30) (_ : l78.length = 30) (v14 v15 : Int), BEST g (vW A F (N_Q A 66) (F 13).toNat (N_Y A F 5) (rk (F 2) (A 4) (A 6)) p.toNat) (2 ^ rk (F 2) (A 4) (A 6) (F 3).toNat) b → R 80 (147, [some (vR 1), some (vI 5), some (vI p), some (vI g), some (vR 65), some (vI Y), some (vI ws), some (vI b), some (vI x), v9], [], LAY (u (u (u (u (u (u (u (u (shA A) 8 l8) 9 l9) 10 l10) 11 l11) 75 l75) 76 l76) 77 l77) 78 l78) (u (u (shF F) 14 v14) 15 v15), 0, 0) post) : R 80 (61, [some (vR 1), some (vI 5), some (vI p), some (vI g), some (vR 65), some (vI Y), some (vI ws), some (vI 0), some (vI 0), none], [], LAY (shA A) (shF F), 0, 0) post := by
  have hL := hR.1
  have hn := R_n hR
  have hn30 := R_n30 hR
  have hF := (D_at5 hR hd).1.1
  have hYb := N_Y_bd hR (d := 5) (by decide)
  rw [← hY] at hYb
  have h32 := pow_le5 (Nat.le_trans (rk_ck (F 2) (A 4) (A 6) (F 3).toNat) (ck5 hR))
  have hpos := Nat.two_pow_pos (rk (F 2) (A 4) (A 6) (F 3).toNat)
  have lp : ∀ (m i : Nat) (b : Int) (x : Int) (v9 : Option AV) (l8 : List Int) (l9 : List Int) (l10 : List Int) (l11 : List Int) (l75 : List Int) (l76 : List Int) (l77 : List Int) (l78 : List Int) (v14 : Int) (v15 : Int), x = (i : Int) → l8.length = 30 → l9.length = 30 → l10.length = 30 → l11.length = 30 → l75.length = 6 → l76.length = 6 → l77.length = 30 → l78.length = 30 → (i = 0 ∨ BEST g (vW A F (N_Q A 66) (F 13).toNat (N_Y A F 5) (rk (F 2) (A 4) (A 6)) p.toNat) i b) → i ≤ 2 ^ rk (F 2) (A 4) (A 6) (F 3).toNat → 2 ^ rk (F 2) (A 4) (A 6) (F 3).toNat + 1 ≤ i + m → R 80 (61, [some (vR 1), some (vI 5), some (vI p), some (vI g), some (vR 65), some (vI Y), some (vI ws), some (vI b), some (vI x), v9], [], LAY (u (u (u (u (u (u (u (u (shA A) 8 l8) 9 l9) 10 l10) 11 l11) 75 l75) 76 l76) 77 l77) 78 l78) (u (u (shF F) 14 v14) 15 v15), 0, 0) post := by
    intro m
    induction m with
    | zero =>
      intro i b x v9 l8 l9 l10 l11 l75 l76 l77 l78 v14 v15 ex hl8 hl9 hl10 hl11 hl75 hl76 hl77 hl78 hb hi hm
      exact absurd hm (by omega)
    | succ m ih =>
      intro i b x v9 l8 l9 l10 l11 l75 l76 l77 l78 v14 v15 ex hl8 hl9 hl10 hl11 hl75 hl76 hl77 hl78 hb hi hm
      refine R_s (P := True) (f' := (65, [some (vR 1), some (vI 5), some (vI p), some (vI g), some (vR 65), some (vI Y), some (vI ws), some (vI b), some (vI x), v9], [vI ws, vI x], LAY (u (u (u (u (u (u (u (u (shA A) 8 l8) 9 l9) 10 l10) 11 l11) 75 l75) 76 l76) 77 l77) 78 l78) (u (u (shF F) 14 v14) 15 v15), 0, 0)) hc80 2 rfl trivial ?_
      refine R_ic (t := 147) hc80 rfl rfl (fun (c1 : ws ≤ x) => ?_) (fun (c1 : ¬ (ws ≤ x)) => ?_)
      · exact hk b x v9 l8 l9 l10 l11 l75 l76 l77 l78 hl8 hl9 hl10 hl11 hl75 hl76 hl77 hl78 v14 v15 (by have z := hb.resolve_left (by omega); rw [show i = 2 ^ rk (F 2) (A 4) (A 6) (F 3).toNat by omega] at z; exact z)
      · refine R_s (P := True) (f' := (78, [some (vR 1), some (vI 5), some (vI p), some (vI g), some (vR 65), some (vI Y), some (vI ws), some (vI b), some (vI x), v9], [vI x, vI (F 2), vR 2], LAY (u (u (u (u (u (u (u (u (shA A) 8 l8) 9 l9) 10 l10) 11 l11) 75 l75) 76 l76) 77 l77) 78 l78) (u (u (shF F) 14 v14) 15 v15), 0, 0)) hc80 5 rfl trivial ?_
        refine R_cv hc80 rfl rfl (l_wakeWx (A := (u (u (u (u (u (u (u (u (shA A) 8 l8) 9 l9) 10 l10) 11 l11) 75 l75) 76 l76) 77 l77) 78 l78)) (F := (u (u (shF F) 14 v14) 15 v15)) (n := (F 3).toNat) (w := i) (al := (alW A F i (rk (F 2) (A 4) (A 6)))) (LENS_8 hL hl8 hl9 hl10 hl11 hl75 hl76 hl77 hl78) hn hn30 (R_TR (A := A) hR) ex (R_U (A := A) hR) (R_T (A := A) hR) (fun q hq => by show alW A F i _ q = _; unfold alW; rw [if_pos hq]; rfl)) (fun r G9 hp9 => ?_)
        obtain ⟨rfl, m8, m9, m10, rfl, hm8, hm9, hm10, hw⟩ := hp9
        obtain ⟨so, te, tp, mg, pm, lo, hS⟩ := SPL_ex A F (alW A F i (rk (F 2) (A 4) (A 6))) (N_Q A 66) (F 13).toNat Y
        have hV := SPL_V hS
        obtain ⟨s1, s2, s3, s4, s5, s6⟩ := hS
        refine R_s (f' := (81, [some (vR 1), some (vI 5), some (vI p), some (vI g), some (vR 65), some (vI Y), some (vI ws), some (vI b), some (vI x), v9], [], LAY (u (u (u (u (u (u (u (u (shA A) 11 l11) 75 l75) 76 l76) 77 l77) 78 l78) 8 m8) 9 m9) 10 m10) (u (u (shF F) 14 v14) 15 v15), 0, 0)) hc80 0 rfl trivial ?_
        refine R_s (P := True) (f' := (97, [some (vR 1), some (vI 5), some (vI p), some (vI g), some (vR 65), some (vI Y), some (vI ws), some (vI b), some (vI x), v9], [vI (F 2), vI Y, vR 65, vR 2, vR 74], LAY (u (u (u (u (u (u (u (u (shA A) 11 l11) 75 l75) 76 l76) 77 l77) 78 l78) 8 m8) 9 m9) 10 m10) (u (u (shF F) 14 v14) 15 v15), 0, 0)) hc80 8 rfl trivial ?_
        refine R_cv hc80 rfl rfl (l_reckon5 (A := (u (u (u (u (u (u (u (u (shA A) 8 m8) 9 m9) 10 m10) 11 l11) 75 l75) 76 l76) 77 l77) 78 l78)) (F := (u (u (shF F) 14 v14) 15 v15)) (n := (F 3).toNat) (LENS_8 hL hm8 hm9 hm10 hl11 hl75 hl76 hl77 hl78) hn hn30 (R_TR (A := A) hR) (al := (alW A F i (rk (F 2) (A 4) (A 6)))) (fun p hp => (hw p hp).1) (fun p _ => alW_01 p) (Q := N_Q A 66) (e := (F 13).toNat) (D_at5 hR hd).1 (by show F 13 = (((F 13).toNat : Nat) : Int); omega) rfl rfl rfl rfl rfl rfl rfl rfl (fun p hp => (hw p hp).2) (Y := Y) (yr := F 2) hYb (so := so) s1 (mg := mg) (pm := pm) (lo := lo) s2 s3 s4) (fun r G9 hp9 => ?_)
        obtain ⟨rfl, r11, r75, r76, r77, r78, rfl, hr11, hr75, hr76, hr77, hr78, z1, z2, z3⟩ := hp9
        have y77 : rd r77 p = vW A F (N_Q A 66) (F 13).toNat (N_Y A F 5) (rk (F 2) (A 4) (A 6)) p.toNat i := by
          have z := z3 p.toNat (by omega)
          rw [show ((p.toNat : Nat) : Int) = p by omega] at z
          have z4 := hV p.toNat
          rw [s6] at z4
          unfold vW
          rw [← hY, ← z4]
          have e : ((p.toNat : Nat) : Int) = p := by omega
          (try dsimp only)
          rw [e]
          exact z
        refine R_s (f' := (100, [some (vR 1), some (vI 5), some (vI p), some (vI g), some (vR 65), some (vI Y), some (vI ws), some (vI b), some (vI x), v9], [], LAY (u (u (u (u (u (u (u (u (shA A) 8 m8) 9 m9) 10 m10) 75 r75) 11 r11) 78 r78) 77 r77) 76 r76) (u (u (shF F) 14 mg) 15 lo), 0, 0)) hc80 0 rfl trivial ?_
        refine R_s (P := (0 ≤ p ∧ p < ((r77).length : Int)) ∧ True) (f' := (113, [some (vR 1), some (vI 5), some (vI p), some (vI g), some (vR 65), some (vI Y), some (vI ws), some (vI b), some (vI x), some (vI (rd r77 p))], [vI x], LAY (u (u (u (u (u (u (u (u (shA A) 8 m8) 9 m9) 10 m10) 75 r75) 11 r11) 78 r78) 77 r77) 76 r76) (u (u (shF F) 14 mg) 15 lo), 0, 0)) hc80 7 rfl ⟨⟨by omega, by omega⟩, trivial⟩ ?_
        refine R_if (t := 137) hc80 rfl rfl (fun (c2 : x = 0) => ?_) (fun (c2 : ¬ (x = 0)) => ?_)
        · refine R_s (P := inI (x + 1) ∧ True) (f' := (61, [some (vR 1), some (vI 5), some (vI p), some (vI g), some (vR 65), some (vI Y), some (vI ws), some (vI (rd r77 p)), some (vI (x + 1)), some (vI (rd r77 p))], [], LAY (u (u (u (u (u (u (u (u (shA A) 8 m8) 9 m9) 10 m10) 75 r75) 11 r11) 78 r78) 77 r77) 76 r76) (u (u (shF F) 14 mg) 15 lo), 0, 0)) hc80 4 rfl ⟨⟨by omega, by omega⟩, trivial⟩ ?_
          refine R_s (P := True) (f' := (61, [some (vR 1), some (vI 5), some (vI p), some (vI g), some (vR 65), some (vI Y), some (vI ws), some (vI (rd r77 p)), some (vI (x + 1)), some (vI (rd r77 p))], [], LAY (u (u (u (u (u (u (u (u (shA A) 8 m8) 9 m9) 10 m10) 11 r11) 75 r75) 76 r76) 77 r77) 78 r78) (u (u (shF F) 14 mg) 15 lo), 0, 0)) hc80 0 rfl trivial ?_
          refine ih (i + 1) _ _ _ _ _ _ _ _ _ _ _ _ _ (by omega) hm8 hm9 hm10 hr11 hr75 hr76 hr77 hr78 (.inr ?_) (by omega) (by omega)
          rw [y77]
          exact BEST_new hb (by rw [← y77]; omega)
        · refine R_s (P := True) (f' := (117, [some (vR 1), some (vI 5), some (vI p), some (vI g), some (vR 65), some (vI Y), some (vI ws), some (vI b), some (vI x), some (vI (rd r77 p))], [vI g], LAY (u (u (u (u (u (u (u (u (shA A) 8 m8) 9 m9) 10 m10) 75 r75) 11 r11) 78 r78) 77 r77) 76 r76) (u (u (shF F) 14 mg) 15 lo), 0, 0)) hc80 1 rfl trivial ?_
          refine R_if (t := 130) hc80 rfl rfl (fun (c3 : g = 0) => ?_) (fun (c3 : ¬ (g = 0)) => ?_)
          · refine R_s (P := True) (f' := (134, [some (vR 1), some (vI 5), some (vI p), some (vI g), some (vR 65), some (vI Y), some (vI ws), some (vI b), some (vI x), some (vI (rd r77 p))], [vI b, vI (rd r77 p)], LAY (u (u (u (u (u (u (u (u (shA A) 8 m8) 9 m9) 10 m10) 75 r75) 11 r11) 78 r78) 77 r77) 76 r76) (u (u (shF F) 14 mg) 15 lo), 0, 0)) hc80 2 rfl trivial ?_
            refine R_ic (t := 141) hc80 rfl rfl (fun (c4 : b ≤ rd r77 p) => ?_) (fun (c4 : ¬ (b ≤ rd r77 p)) => ?_)
            · refine R_s (P := inI (x + 1) ∧ True) (f' := (61, [some (vR 1), some (vI 5), some (vI p), some (vI g), some (vR 65), some (vI Y), some (vI ws), some (vI b), some (vI (x + 1)), some (vI (rd r77 p))], [], LAY (u (u (u (u (u (u (u (u (shA A) 8 m8) 9 m9) 10 m10) 75 r75) 11 r11) 78 r78) 77 r77) 76 r76) (u (u (shF F) 14 mg) 15 lo), 0, 0)) hc80 2 rfl ⟨⟨by omega, by omega⟩, trivial⟩ ?_
              refine R_s (P := True) (f' := (61, [some (vR 1), some (vI 5), some (vI p), some (vI g), some (vR 65), some (vI Y), some (vI ws), some (vI b), some (vI (x + 1)), some (vI (rd r77 p))], [], LAY (u (u (u (u (u (u (u (u (shA A) 8 m8) 9 m9) 10 m10) 11 r11) 75 r75) 76 r76) 77 r77) 78 r78) (u (u (shF F) 14 mg) 15 lo), 0, 0)) hc80 0 rfl trivial ?_
              refine ih (i + 1) _ _ _ _ _ _ _ _ _ _ _ _ _ (by omega) hm8 hm9 hm10 hr11 hr75 hr76 hr77 hr78 (.inr ?_) (by omega) (by omega)
              exact BEST_old (hb.resolve_left (by omega)) (by rw [← y77]; omega)
            · refine R_s (P := inI (x + 1) ∧ True) (f' := (61, [some (vR 1), some (vI 5), some (vI p), some (vI g), some (vR 65), some (vI Y), some (vI ws), some (vI (rd r77 p)), some (vI (x + 1)), some (vI (rd r77 p))], [], LAY (u (u (u (u (u (u (u (u (shA A) 8 m8) 9 m9) 10 m10) 75 r75) 11 r11) 78 r78) 77 r77) 76 r76) (u (u (shF F) 14 mg) 15 lo), 0, 0)) hc80 4 rfl ⟨⟨by omega, by omega⟩, trivial⟩ ?_
              refine R_s (P := True) (f' := (61, [some (vR 1), some (vI 5), some (vI p), some (vI g), some (vR 65), some (vI Y), some (vI ws), some (vI (rd r77 p)), some (vI (x + 1)), some (vI (rd r77 p))], [], LAY (u (u (u (u (u (u (u (u (shA A) 8 m8) 9 m9) 10 m10) 11 r11) 75 r75) 76 r76) 77 r77) 78 r78) (u (u (shF F) 14 mg) 15 lo), 0, 0)) hc80 0 rfl trivial ?_
              refine ih (i + 1) _ _ _ _ _ _ _ _ _ _ _ _ _ (by omega) hm8 hm9 hm10 hr11 hr75 hr76 hr77 hr78 (.inr ?_) (by omega) (by omega)
              rw [y77]
              exact BEST_new hb (by rw [← y77]; omega)
          · refine R_s (P := True) (f' := (124, [some (vR 1), some (vI 5), some (vI p), some (vI g), some (vR 65), some (vI Y), some (vI ws), some (vI b), some (vI x), some (vI (rd r77 p))], [vI b, vI (rd r77 p)], LAY (u (u (u (u (u (u (u (u (shA A) 8 m8) 9 m9) 10 m10) 75 r75) 11 r11) 78 r78) 77 r77) 76 r76) (u (u (shF F) 14 mg) 15 lo), 0, 0)) hc80 2 rfl trivial ?_
            refine R_ic (t := 141) hc80 rfl rfl (fun (c5 : rd r77 p ≤ b) => ?_) (fun (c5 : ¬ (rd r77 p ≤ b)) => ?_)
            · refine R_s (P := inI (x + 1) ∧ True) (f' := (61, [some (vR 1), some (vI 5), some (vI p), some (vI g), some (vR 65), some (vI Y), some (vI ws), some (vI b), some (vI (x + 1)), some (vI (rd r77 p))], [], LAY (u (u (u (u (u (u (u (u (shA A) 8 m8) 9 m9) 10 m10) 75 r75) 11 r11) 78 r78) 77 r77) 76 r76) (u (u (shF F) 14 mg) 15 lo), 0, 0)) hc80 2 rfl ⟨⟨by omega, by omega⟩, trivial⟩ ?_
              refine R_s (P := True) (f' := (61, [some (vR 1), some (vI 5), some (vI p), some (vI g), some (vR 65), some (vI Y), some (vI ws), some (vI b), some (vI (x + 1)), some (vI (rd r77 p))], [], LAY (u (u (u (u (u (u (u (u (shA A) 8 m8) 9 m9) 10 m10) 11 r11) 75 r75) 76 r76) 77 r77) 78 r78) (u (u (shF F) 14 mg) 15 lo), 0, 0)) hc80 0 rfl trivial ?_
              refine ih (i + 1) _ _ _ _ _ _ _ _ _ _ _ _ _ (by omega) hm8 hm9 hm10 hr11 hr75 hr76 hr77 hr78 (.inr ?_) (by omega) (by omega)
              exact BEST_old (hb.resolve_left (by omega)) (by rw [← y77]; omega)
            · refine R_s (P := inI (x + 1) ∧ True) (f' := (61, [some (vR 1), some (vI 5), some (vI p), some (vI g), some (vR 65), some (vI Y), some (vI ws), some (vI (rd r77 p)), some (vI (x + 1)), some (vI (rd r77 p))], [], LAY (u (u (u (u (u (u (u (u (shA A) 8 m8) 9 m9) 10 m10) 75 r75) 11 r11) 78 r78) 77 r77) 76 r76) (u (u (shF F) 14 mg) 15 lo), 0, 0)) hc80 5 rfl ⟨⟨by omega, by omega⟩, trivial⟩ ?_
              refine R_s (P := True) (f' := (61, [some (vR 1), some (vI 5), some (vI p), some (vI g), some (vR 65), some (vI Y), some (vI ws), some (vI (rd r77 p)), some (vI (x + 1)), some (vI (rd r77 p))], [], LAY (u (u (u (u (u (u (u (u (shA A) 8 m8) 9 m9) 10 m10) 11 r11) 75 r75) 76 r76) 77 r77) 78 r78) (u (u (shF F) 14 mg) 15 lo), 0, 0)) hc80 0 rfl trivial ?_
              refine ih (i + 1) _ _ _ _ _ _ _ _ _ _ _ _ _ (by omega) hm8 hm9 hm10 hr11 hr75 hr76 hr77 hr78 (.inr ?_) (by omega) (by omega)
              rw [y77]
              exact BEST_new hb (by rw [← y77]; omega)
  refine R_s (P := True) (f' := (61, [some (vR 1), some (vI 5), some (vI p), some (vI g), some (vR 65), some (vI Y), some (vI ws), some (vI 0), some (vI 0), none], [], LAY (u (u (u (u (u (u (u (u (shA A) 8 (A 8)) 9 (A 9)) 10 (A 10)) 11 (A 11)) 75 (A 75)) 76 (A 76)) 77 (A 77)) 78 (A 78)) (u (u (shF F) 14 (F 14)) 15 (F 15)), 0, 0)) hc80 0 rfl trivial ?_
  exact lp (2 ^ rk (F 2) (A 4) (A 6) (F 3).toNat + 1) 0 _ _ _ _ _ _ _ _ _ _ _ _ _ rfl (hL 8 (by decide)) (hL 9 (by decide)) (hL 10 (by decide)) (hL 11 (by decide)) (hL 75 (by decide)) (hL 76 (by decide)) (hL 77 (by decide)) (hL 78 (by decide)) (.inl rfl) (by omega) (by omega)

theorem l_unknowns' {A : Nat → List Int} {F : Nat → Int} (hn : 0 ≤ F 19 ∧ F 19 ≤ 30) (h93 : (A 93).length = 30)  : R 111 (0, L0 111 [vR 88], [], LAY A F, 0, 0) (fun r G => r = some (vI (sm (fun i => if rd (A 93) i = 0 then 0 else 1) (F 19).toNat)) ∧ G = LAY A F) := by
  have lp : ∀ (m i : Nat) (s x : Int), x = (i : Int) → s = sm (fun i => if rd (A 93) i = 0 then 0 else 1) i → i ≤ (F 19).toNat → (F 19).toNat + 1 ≤ i + m → R 111 (4, [some (vR 88), some (vI s), some (vI x)], [], LAY A F, 0, 0) (fun r G => r = some (vI (sm (fun i => if rd (A 93) i = 0 then 0 else 1) (F 19).toNat)) ∧ G = LAY A F) := by
    intro m
    induction m with
    | zero =>
      intro i s x ex es hi hm
      exact absurd hm (by omega)
    | succ m ih =>
      intro i s x ex es hi hm
      have hb := sm_bd (g := fun i => if rd (A 93) i = 0 then 0 else 1) (b := 1) i (fun j hj => by (try dsimp only); split <;> omega)
      rw [← es] at hb
      refine R_s (P := True) (f' := (9, [some (vR 88), some (vI s), some (vI x)], [vI (F 19), vI x], LAY A F, 0, 0)) hc111 3 rfl trivial ?_
      refine R_ic (t := 35) hc111 rfl rfl (fun (c1 : F 19 ≤ x) => ?_) (fun (c1 : ¬ (F 19 ≤ x)) => ?_)
      · refine R_s (P := True) (f' := (36, [some (vR 88), some (vI s), some (vI x)], [vI s], LAY A F, 0, 0)) hc111 1 rfl trivial ?_
        exact R_reti hc111 rfl rfl ⟨by rw [es, show i = (F 19).toNat by omega], rfl⟩
      · refine R_s (P := (0 ≤ x ∧ x < ((A 93).length : Int)) ∧ True) (f' := (19, [some (vR 88), some (vI s), some (vI x)], [vI (rd (A 93) x), vI s], LAY A F, 0, 0)) hc111 5 rfl ⟨⟨by omega, by omega⟩, trivial⟩ ?_
        refine R_if (t := 26) hc111 rfl rfl (fun (c2 : rd (A 93) x = 0) => ?_) (fun (c2 : ¬ (rd (A 93) x = 0)) => ?_)
        · refine R_s (P := inI (s + 0) ∧ inI (x + 1) ∧ True) (f' := (4, [some (vR 88), some (vI (s + 0)), some (vI (x + 1))], [], LAY A F, 0, 0)) hc111 5 rfl ⟨⟨by omega, by omega⟩, ⟨by omega, by omega⟩, trivial⟩ ?_
          exact ih (i + 1) _ _ (by push_cast; omega) (by subst es; subst ex; simp only [sm]; split <;> omega) (by omega) (by omega)
        · refine R_s (P := inI (s + 1) ∧ inI (x + 1) ∧ True) (f' := (4, [some (vR 88), some (vI (s + 1)), some (vI (x + 1))], [], LAY A F, 0, 0)) hc111 6 rfl ⟨⟨by omega, by omega⟩, ⟨by omega, by omega⟩, trivial⟩ ?_
          exact ih (i + 1) _ _ (by push_cast; omega) (by subst es; subst ex; simp only [sm]; split <;> omega) (by omega) (by omega)
  refine R_s (P := True) (f' := (4, [some (vR 88), some (vI 0), some (vI 0)], [], LAY A F, 0, 0)) hc111 4 rfl trivial ?_
  exact lp ((F 19).toNat + 1) 0 _ _ rfl rfl (by omega) (by omega)


theorem bound_M {c : Int} {A A0 : Nat → List Int} {F F0 : Nat → Int} (hR : REL c A F) (e90 : A0 90 = A 3) (e91 : A0 91 = A 4) (e92 : A0 92 = A 5) (e93 : A0 93 = A 6) (e94 : A0 94 = A 94) (e96 : A0 96 = A 14) (e97 : A0 97 = A 15) (e98 : A0 98 = A 16) (e99 : A0 99 = A 99) (e100 : A0 100 = A 100) (f19 : F0 19 = F 3) (f20 : F0 20 = F 4) (f21 : F0 21 = F 0) (f18 : F0 18 = F 2) (g109 : (A0 109).length = 30) (g104 : (A0 104).length = 30) (g105 : (A0 105).length = 30) (g110 : (A0 110).length = 30) (g111 : (A0 111).length = 30) (g108 : (A0 108).length = 30) (g107 : (A0 107).length = 6) {Q : Nat → List Int} {e : Nat} {d Y : Int} (hQ : QOK (F 3).toNat Q e) (hM : MD (A 99) (A 100) Q e d) (hY : Y = N_Y A F d) {p g : Int} (hp : 0 ≤ p ∧ p < F 3) : R 154 (23, [some (vR 88), some (vI d), some (vI p), some (vI g), none, none, none, none, none, none], [], LAY A0 F0, 0, 0) (fun r G => ∃ b l109 l104 l105 l110 l111 l108 l107 v28 v29 v30 v31, r = some (vI b) ∧ BEST g (vW A F Q e Y (ck (A 6)) p.toNat) (2 ^ ck (A 6) (F 3).toNat) b ∧ G = LAY (u (u (u (u (u (u (u A0 109 l109) 104 l104) 105 l105) 110 l110) 111 l111) 108 l108) 107 l107) (u (u (u (u F0 28 v28) 29 v29) 30 v30) 31 v31) ∧ l109.length = 30 ∧ l104.length = 30 ∧ l105.length = 30 ∧ l110.length = 30 ∧ l111.length = 30 ∧ l108.length = 30 ∧ l107.length = 6) := by
  have hn := R_n hR
  have hn30 := R_n30 hR
  have hd := hM.2.2.1
  have hYb := N_Y_bd hR hd
  rw [← hY] at hYb
  have h5 := ck5 hR
  have h32 := pow_le5 h5
  have hpos := Nat.two_pow_pos (ck (A 6) (F 3).toNat)
  have g94 : (A0 94).length = 30 := by rw [e94]; exact hR.1 94 (by decide)
  have g93 : (A0 93).length = 30 := by rw [e93]; exact hR.1 6 (by decide)
  have hp30 : ∀ i : Nat, i < (F 3).toNat → (2 : Nat) ^ i ≤ 536870912 := fun i hi => Nat.pow_le_pow_right (show 0 < 2 by decide) (show i ≤ 29 by omega)
  have l1 : ∀ (m i : Nat) (x was : Int) (W : Nat), x = (i : Int) → was = ((W : Nat) : Int) → W < 2 ^ i → (∀ q : Nat, q < i → ((W / 2 ^ q % 2 : Nat) : Int) = rd (A0 94) q) → i ≤ (F 3).toNat → (F 3).toNat + 1 ≤ i + m → R 154 (29, [some (vR 88), some (vI d), some (vI p), some (vI g), some (vI was), some (vI x), none, none, none, none], [], LAY A0 F0, 0, 0) (fun r G => ∃ b l109 l104 l105 l110 l111 l108 l107 v28 v29 v30 v31, r = some (vI b) ∧ BEST g (vW A F Q e Y (ck (A 6)) p.toNat) (2 ^ ck (A 6) (F 3).toNat) b ∧ G = LAY (u (u (u (u (u (u (u A0 109 l109) 104 l104) 105 l105) 110 l110) 111 l111) 108 l108) 107 l107) (u (u (u (u F0 28 v28) 29 v29) 30 v30) 31 v31) ∧ l109.length = 30 ∧ l104.length = 30 ∧ l105.length = 30 ∧ l110.length = 30 ∧ l111.length = 30 ∧ l108.length = 30 ∧ l107.length = 6) := by
    intro m
    induction m with
    | zero =>
      intro i x was W ex hwas hWl hW hi hm
      exact absurd hm (by omega)
    | succ m ih =>
      intro i x was W ex hwas hWl hW hi hm
      have e01 : i < (F 3).toNat → rd (A0 94) x = 0 ∨ rd (A0 94) x = 1 := fun q => by
        rw [e94, ex]
        exact (R_mT hR i q).1
      have ep : (1 : Int) * 2 ^ (x : Int).toNat = ((2 ^ i : Nat) : Int) := by
        rw [ex, Int.toNat_natCast, Int.one_mul]
        push_cast
        rfl
      have hpi := hp30 i
      have hps := Nat.pow_succ (n := 2) (m := i)
      refine R_s (P := True) (f' := (35, [some (vR 88), some (vI d), some (vI p), some (vI g), some (vI was), some (vI x), none, none, none, none], [vI (F0 19), vI x], LAY A0 F0, 0, 0)) hc154 3 rfl trivial ?_
      refine R_ic (t := 67) hc154 rfl rfl (fun (c1 : F0 19 ≤ x) => ?_) (fun (c1 : ¬ (F0 19 ≤ x)) => ?_)
      · refine R_s (P := True) (f' := (72, [some (vR 88), some (vI d), some (vI p), some (vI g), some (vI was), some (vI (-1)), none, none, none, none], [vR 88, vI 1], LAY A0 F0, 0, 0)) hc154 4 rfl trivial ?_
        refine R_cv hc154 rfl rfl (l_unknowns' (A := A0) (F := F0) (by rw [f19]; omega) g93) (fun r G9 hp9 => ?_)
        obtain ⟨e1, rfl⟩ := hp9
        have e2 : r = some (vI ((ck (A 6) (F 3).toNat : Nat) : Int)) := by
          rw [e1, f19, e93, ck_sm]
        clear e1
        subst e2
        refine R_s (f' := (75, [some (vR 88), some (vI d), some (vI p), some (vI g), some (vI was), some (vI (-1)), none, none, none, none], [vI ((ck (A 6) (F 3).toNat : Nat) : Int), vI 1], LAY A0 F0, 0, 0)) hc154 0 rfl trivial ?_
        refine R_s (P := (0 ≤ ((ck (A 6) (F 3).toNat : Nat) : Int) ∧ ((ck (A 6) (F 3).toNat : Nat) : Int) < 31 ∧ 0 ≤ 1 ∧ 1 * 2 ^ (((ck (A 6) (F 3).toNat : Nat) : Int) : Int).toNat ≤ 2147483647) ∧ True) (f' := (81, [some (vR 88), some (vI d), some (vI p), some (vI g), some (vI was), some (vI (-1)), some (vI (1 * 2 ^ (((ck (A 6) (F 3).toNat : Nat) : Int) : Int).toNat)), some (vI 0), none, none], [], LAY A0 F0, 0, 0)) hc154 4 rfl ⟨⟨by omega, by omega, by omega, by (first | (rw [ep]; omega) | (rw [Int.toNat_natCast, Int.one_mul]; have z := h32; have z2 : ((2 ^ ck (A 6) (F 3).toNat : Nat) : Int) ≤ 32 := (by omega); push_cast at z2; omega))⟩, trivial⟩ ?_
        obtain ⟨ws, hws⟩ : ∃ ws : Int, ws = 1 * 2 ^ (((ck (A 6) (F 3).toNat : Nat) : Int) : Int).toNat := ⟨_, rfl⟩
        rw [← hws]
        have hws2 : ws = ((2 ^ ck (A 6) (F 3).toNat : Nat) : Int) := by
          rw [hws, Int.toNat_natCast, Int.one_mul]
          push_cast
          rfl
        rw [show i = (F 3).toNat by omega] at hWl hW
        have lp : ∀ (mj j : Nat) (b : Int) (x : Int) (v8 : Option AV) (v9 : Option AV) (l109 : List Int) (l104 : List Int) (l105 : List Int) (l110 : List Int) (l111 : List Int) (l108 : List Int) (l107 : List Int) (l94 : List Int) (v28 : Int) (v29 : Int) (v30 : Int) (v31 : Int), x = (j : Int) → l109.length = 30 → l104.length = 30 → l105.length = 30 → l110.length = 30 → l111.length = 30 → l108.length = 30 → l107.length = 6 → l94.length = 30 → (∀ q : Nat, q < (F 3).toNat → rd l94 q = 0 ∨ rd l94 q = 1) → (∀ q : Nat, q < 30 → (F 3).toNat ≤ q → rd l94 q = rd (A0 94) q) → ((j = 0 ∧ b = -1) ∨ (0 < j ∧ BEST g (vW A F Q e Y (ck (A 6)) p.toNat) j b)) → j ≤ 2 ^ ck (A 6) (F 3).toNat → 2 ^ ck (A 6) (F 3).toNat + 1 ≤ j + mj → R 154 (81, [some (vR 88), some (vI d), some (vI p), some (vI g), some (vI was), some (vI b), some (vI ws), some (vI x), v8, v9], [], LAY (u (u (u (u (u (u (u (u A0 109 l109) 104 l104) 105 l105) 110 l110) 111 l111) 108 l108) 107 l107) 94 l94) (u (u (u (u F0 28 v28) 29 v29) 30 v30) 31 v31), 0, 0) (fun r G => ∃ b l109 l104 l105 l110 l111 l108 l107 v28 v29 v30 v31, r = some (vI b) ∧ BEST g (vW A F Q e Y (ck (A 6)) p.toNat) (2 ^ ck (A 6) (F 3).toNat) b ∧ G = LAY (u (u (u (u (u (u (u A0 109 l109) 104 l104) 105 l105) 110 l110) 111 l111) 108 l108) 107 l107) (u (u (u (u F0 28 v28) 29 v29) 30 v30) 31 v31) ∧ l109.length = 30 ∧ l104.length = 30 ∧ l105.length = 30 ∧ l110.length = 30 ∧ l111.length = 30 ∧ l108.length = 30 ∧ l107.length = 6) := by
          intro mj
          induction mj with
          | zero =>
            intro j b x v8 v9 l109 l104 l105 l110 l111 l108 l107 l94 v28 v29 v30 v31 ex0 hl109 hl104 hl105 hl110 hl111 hl108 hl107 hl94 hl94a hl94b hb hj hmj
            exact absurd hmj (by omega)
          | succ mj ihj =>
            intro j b x v8 v9 l109 l104 l105 l110 l111 l108 l107 l94 v28 v29 v30 v31 ex0 hl109 hl104 hl105 hl110 hl111 hl108 hl107 hl94 hl94a hl94b hb hj hmj
            refine R_s (P := True) (f' := (85, [some (vR 88), some (vI d), some (vI p), some (vI g), some (vI was), some (vI b), some (vI ws), some (vI x), v8, v9], [vI ws, vI x], LAY (u (u (u (u (u (u (u (u A0 109 l109) 104 l104) 105 l105) 110 l110) 111 l111) 108 l108) 107 l107) 94 l94) (u (u (u (u F0 28 v28) 29 v29) 30 v30) 31 v31), 0, 0)) hc154 2 rfl trivial ?_
            refine R_ic (t := 204) hc154 rfl rfl (fun (c1 : ws ≤ x) => ?_) (fun (c1 : ¬ (ws ≤ x)) => ?_)
            · refine R_s (P := True) (f' := (207, [some (vR 88), some (vI d), some (vI p), some (vI g), some (vI was), some (vI b), some (vI ws), some (vI 0), v8, v9], [], LAY (u (u (u (u (u (u (u (u A0 109 l109) 104 l104) 105 l105) 110 l110) 111 l111) 108 l108) 107 l107) 94 l94) (u (u (u (u F0 28 v28) 29 v29) 30 v30) 31 v31), 0, 0)) hc154 2 rfl trivial ?_
              have hB : BEST g (vW A F Q e Y (ck (A 6)) p.toNat) (2 ^ ck (A 6) (F 3).toNat) b := by
                have z := (hb.resolve_left (fun z => by omega)).2
                rw [show j = 2 ^ ck (A 6) (F 3).toNat by omega] at z
                exact z
              obtain ⟨v6, hv6⟩ : ∃ v : Option AV, v = some (vI ws) := ⟨_, rfl⟩
              rw [← hv6]
              have lq : ∀ (m i : Nat) (x : Int) (m94 : List Int), x = (i : Int) → m94.length = 30 → (∀ q : Nat, q < 30 → rd m94 q = if q < i then rd (A0 94) q else rd l94 q) → i ≤ (F 3).toNat → (F 3).toNat + 1 ≤ i + m → R 154 (207, [some (vR 88), some (vI d), some (vI p), some (vI g), some (vI was), some (vI b), v6, some (vI x), v8, v9], [], LAY (u (u (u (u (u (u (u (u A0 109 l109) 104 l104) 105 l105) 110 l110) 111 l111) 108 l108) 107 l107) 94 m94) (u (u (u (u F0 28 v28) 29 v29) 30 v30) 31 v31), 0, 0) (fun r G => ∃ b l109 l104 l105 l110 l111 l108 l107 v28 v29 v30 v31, r = some (vI b) ∧ BEST g (vW A F Q e Y (ck (A 6)) p.toNat) (2 ^ ck (A 6) (F 3).toNat) b ∧ G = LAY (u (u (u (u (u (u (u A0 109 l109) 104 l104) 105 l105) 110 l110) 111 l111) 108 l108) 107 l107) (u (u (u (u F0 28 v28) 29 v29) 30 v30) 31 v31) ∧ l109.length = 30 ∧ l104.length = 30 ∧ l105.length = 30 ∧ l110.length = 30 ∧ l111.length = 30 ∧ l108.length = 30 ∧ l107.length = 6) := by
                intro m
                induction m with
                | zero =>
                  intro i x m94 ex hm94 hz hi hm
                  exact absurd hm (by omega)
                | succ m ih =>
                  intro i x m94 ex hm94 hz hi hm
                  have hWi := hW i
                  have e01 : i < (F 3).toNat → rd (A0 94) i = 0 ∨ rd (A0 94) i = 1 := fun q => by
                    rw [e94]
                    exact (R_mT hR i q).1
                  have sh : was / 2 ^ (x : Int).toNat % (1 + 1) = ((W / 2 ^ i % 2 : Nat) : Int) := by
                    rw [hwas, ex, Int.toNat_natCast]
                    push_cast
                    rfl
                  refine R_s (P := True) (f' := (213, [some (vR 88), some (vI d), some (vI p), some (vI g), some (vI was), some (vI b), v6, some (vI x), v8, v9], [vI (F0 19), vI x], LAY (u (u (u (u (u (u (u (u A0 109 l109) 104 l104) 105 l105) 110 l110) 111 l111) 108 l108) 107 l107) 94 m94) (u (u (u (u F0 28 v28) 29 v29) 30 v30) 31 v31), 0, 0)) hc154 3 rfl trivial ?_
                  refine R_ic (t := 245) hc154 rfl rfl (fun (c1 : F0 19 ≤ x) => ?_) (fun (c1 : ¬ (F0 19 ≤ x)) => ?_)
                  · refine R_s (P := True) (f' := (247, [some (vR 88), some (vI d), some (vI p), some (vI g), some (vI was), some (vI b), v6, some (vI x), v8, v9], [vI b], LAY (u (u (u (u (u (u (u (u A0 109 l109) 104 l104) 105 l105) 110 l110) 111 l111) 108 l108) 107 l107) 94 m94) (u (u (u (u F0 28 v28) 29 v29) 30 v30) 31 v31), 0, 0)) hc154 1 rfl trivial ?_
                    refine R_reti hc154 rfl rfl ⟨b, l109, l104, l105, l110, l111, l108, l107, v28, v29, v30, v31, rfl, hB, ?_, hl109, hl104, hl105, hl110, hl111, hl108, hl107⟩
                    have e9 : m94 = A0 94 := list_ext (by rw [hm94, g94]) (fun q hq => by
                      rw [hz q (by omega)]
                      by_cases e3 : q < i
                      · rw [if_pos e3]
                      · rw [if_neg e3]
                        exact hl94b q (by omega) (by omega))
                    rw [e9]
                    rfl
                  · refine R_s (P := (0 ≤ x ∧ x < 32) ∧ (1 = 1 ∨ 1 = 63 ∨ 1 = 255) ∧ True) (f' := (230, [some (vR 88), some (vI d), some (vI p), some (vI g), some (vI was), some (vI b), v6, some (vI x), v8, v9], [vI 1, vI ((was / 2 ^ (x : Int).toNat) % (1 + 1)), vI x, vR 94], LAY (u (u (u (u (u (u (u (u A0 109 l109) 104 l104) 105 l105) 110 l110) 111 l111) 108 l108) 107 l107) 94 m94) (u (u (u (u F0 28 v28) 29 v29) 30 v30) 31 v31), 0, 0)) hc154 9 rfl ⟨⟨by omega, by omega⟩, (by decide), trivial⟩ ?_
                    refine R_ic (t := 237) hc154 rfl rfl (fun (c2 : ¬ (was / 2 ^ (x : Int).toNat) % (1 + 1) = 1) => ?_) (fun (c2 : ¬ (¬ (was / 2 ^ (x : Int).toNat) % (1 + 1) = 1)) => ?_)
                    · refine R_s (P := ((0 ≤ x ∧ x < ((m94).length : Int)) ∧ (0 = 0 ∨ 0 = 1)) ∧ inI (x + 1) ∧ True) (f' := (207, [some (vR 88), some (vI d), some (vI p), some (vI g), some (vI was), some (vI b), v6, some (vI (x + 1)), v8, v9], [], LAY (u (u (u (u (u (u (u (u A0 109 l109) 104 l104) 105 l105) 110 l110) 111 l111) 108 l108) 107 l107) 94 (wr m94 x 0)) (u (u (u (u F0 28 v28) 29 v29) 30 v30) 31 v31), 0, 0)) hc154 4 rfl ⟨⟨⟨by omega, by omega⟩, by omega⟩, ⟨by omega, by omega⟩, trivial⟩ ?_
                      refine R_s (P := True) (f' := (207, [some (vR 88), some (vI d), some (vI p), some (vI g), some (vI was), some (vI b), v6, some (vI (x + 1)), v8, v9], [], LAY (u (u (u (u (u (u (u (u A0 109 l109) 104 l104) 105 l105) 110 l110) 111 l111) 108 l108) 107 l107) 94 (wr m94 x 0)) (u (u (u (u F0 28 v28) 29 v29) 30 v30) 31 v31), 0, 0)) hc154 0 rfl trivial ?_
                      have q1 := hWi (by omega)
                      have q2 := e01 (by omega)
                      refine ih (i + 1) _ _ (by omega) (by rw [wr_len]; exact hm94) (fun q hq => ?_) (by omega) (by omega)
                      rw [rd_wr (by omega) (by omega) (by omega)]
                      by_cases e9 : (q : Int) = x
                      · rw [if_pos e9, if_pos (by omega), show q = i by omega]
                        omega
                      · rw [if_neg e9, hz q hq]
                        by_cases e3 : q < i
                        · rw [if_pos e3, if_pos (by omega)]
                        · rw [if_neg e3, if_neg (by omega)]
                    · refine R_s (P := ((0 ≤ x ∧ x < ((m94).length : Int)) ∧ (1 = 0 ∨ 1 = 1)) ∧ inI (x + 1) ∧ True) (f' := (207, [some (vR 88), some (vI d), some (vI p), some (vI g), some (vI was), some (vI b), v6, some (vI (x + 1)), v8, v9], [], LAY (u (u (u (u (u (u (u (u A0 109 l109) 104 l104) 105 l105) 110 l110) 111 l111) 108 l108) 107 l107) 94 (wr m94 x 1)) (u (u (u (u F0 28 v28) 29 v29) 30 v30) 31 v31), 0, 0)) hc154 5 rfl ⟨⟨⟨by omega, by omega⟩, by omega⟩, ⟨by omega, by omega⟩, trivial⟩ ?_
                      refine R_s (P := True) (f' := (207, [some (vR 88), some (vI d), some (vI p), some (vI g), some (vI was), some (vI b), v6, some (vI (x + 1)), v8, v9], [], LAY (u (u (u (u (u (u (u (u A0 109 l109) 104 l104) 105 l105) 110 l110) 111 l111) 108 l108) 107 l107) 94 (wr m94 x 1)) (u (u (u (u F0 28 v28) 29 v29) 30 v30) 31 v31), 0, 0)) hc154 0 rfl trivial ?_
                      have q1 := hWi (by omega)
                      have q2 := e01 (by omega)
                      refine ih (i + 1) _ _ (by omega) (by rw [wr_len]; exact hm94) (fun q hq => ?_) (by omega) (by omega)
                      rw [rd_wr (by omega) (by omega) (by omega)]
                      by_cases e9 : (q : Int) = x
                      · rw [if_pos e9, if_pos (by omega), show q = i by omega]
                        omega
                      · rw [if_neg e9, hz q hq]
                        by_cases e3 : q < i
                        · rw [if_pos e3, if_pos (by omega)]
                        · rw [if_neg e3, if_neg (by omega)]
              exact lq ((F 3).toNat + 1) 0 _ _ rfl hl94 (fun q hq => by rw [if_neg (by omega)]) (by omega) (by omega)
            · refine R_s (P := True) (f' := (94, [some (vR 88), some (vI d), some (vI p), some (vI g), some (vI was), some (vI b), some (vI ws), some (vI x), some (vI 0), some (vI 0)], [], LAY (u (u (u (u (u (u (u (u A0 109 l109) 104 l104) 105 l105) 110 l110) 111 l111) 108 l108) 107 l107) 94 l94) (u (u (u (u F0 28 v28) 29 v29) 30 v30) 31 v31), 0, 0)) hc154 4 rfl trivial ?_
              have li : ∀ (m i : Nat) (z kx : Int) (m94 : List Int), z = (i : Int) → kx = (ck (A 6) i : Int) → m94.length = 30 → (∀ q : Nat, q < (F 3).toNat → rd m94 q = 0 ∨ rd m94 q = 1) → (∀ q : Nat, q < 30 → (F 3).toNat ≤ q → rd m94 q = rd (A0 94) q) → (∀ q : Nat, q < i → rd (A 6) q ≠ 0 → rd m94 q = ((j / 2 ^ ck (A 6) q % 2 : Nat) : Int)) → i ≤ (F 3).toNat → (F 3).toNat + 1 ≤ i + m → R 154 (94, [some (vR 88), some (vI d), some (vI p), some (vI g), some (vI was), some (vI b), some (vI ws), some (vI x), some (vI kx), some (vI z)], [], LAY (u (u (u (u (u (u (u (u A0 109 l109) 104 l104) 105 l105) 110 l110) 111 l111) 108 l108) 107 l107) 94 m94) (u (u (u (u F0 28 v28) 29 v29) 30 v30) 31 v31), 0, 0) (fun r G => ∃ b l109 l104 l105 l110 l111 l108 l107 v28 v29 v30 v31, r = some (vI b) ∧ BEST g (vW A F Q e Y (ck (A 6)) p.toNat) (2 ^ ck (A 6) (F 3).toNat) b ∧ G = LAY (u (u (u (u (u (u (u A0 109 l109) 104 l104) 105 l105) 110 l110) 111 l111) 108 l108) 107 l107) (u (u (u (u F0 28 v28) 29 v29) 30 v30) 31 v31) ∧ l109.length = 30 ∧ l104.length = 30 ∧ l105.length = 30 ∧ l110.length = 30 ∧ l111.length = 30 ∧ l108.length = 30 ∧ l107.length = 6) := by
                intro m
                induction m with
                | zero =>
                  intro i z kx m94 ez ek hm94 ha hb2 hc2 hi hm
                  exact absurd hm (by omega)
                | succ m ih =>
                  intro i z kx m94 ez ek hm94 ha hb2 hc2 hi hm
                  have hkb := ck_bd (A 6) i
                  have hkb5 := ck_mono (A 6) hi
                  have g6 : rd (A0 93) z = rd (A 6) i := by rw [e93, ez]
                  have sh : x / 2 ^ (kx : Int).toNat % (1 + 1) = ((j / 2 ^ ck (A 6) i % 2 : Nat) : Int) := by
                    rw [ex0, ek, Int.toNat_natCast]
                    push_cast
                    rfl
                  refine R_s (P := True) (f' := (100, [some (vR 88), some (vI d), some (vI p), some (vI g), some (vI was), some (vI b), some (vI ws), some (vI x), some (vI kx), some (vI z)], [vI (F0 19), vI z], LAY (u (u (u (u (u (u (u (u A0 109 l109) 104 l104) 105 l105) 110 l110) 111 l111) 108 l108) 107 l107) 94 m94) (u (u (u (u F0 28 v28) 29 v29) 30 v30) 31 v31), 0, 0)) hc154 3 rfl trivial ?_
                  refine R_ic (t := 145) hc154 rfl rfl (fun (c1 : F0 19 ≤ z) => ?_) (fun (c1 : ¬ (F0 19 ≤ z)) => ?_)
                  · obtain ⟨so, te, tp, mg, pm, lo, hS⟩ := SPL_ex A F (alW A F j (ck (A 6))) Q e Y
                    refine R_s (P := True) (f' := (147, [some (vR 88), some (vI d), some (vI p), some (vI g), some (vI was), some (vI b), some (vI ws), some (vI x), some (vI kx), some (vI z)], [vI d, vR 88], LAY (u (u (u (u (u (u (u (u A0 109 l109) 104 l104) 105 l105) 110 l110) 111 l111) 108 l108) 107 l107) 94 m94) (u (u (u (u F0 28 v28) 29 v29) 30 v30) 31 v31), 0, 0)) hc154 2 rfl trivial ?_
                    refine R_cv hc154 rfl rfl (l_worksA hR (A1 := (u (u (u (u (u (u (u (u A0 109 l109) 104 l104) 105 l105) 110 l110) 111 l111) 108 l108) 107 l107) 94 m94)) (F1 := (u (u (u (u F0 28 v28) 29 v29) 30 v30) 31 v31)) e90 e91 e92 e93 hm94 (fun q hq => ha q hq) e96 e97 e98 e99 e100 f18 f19 f20 hl104 hl105 hl107 hl108 hl109 hl110 hl111 (al := (alW A F j (ck (A 6)))) (fun q hq => by
                    show alW A F j _ q = LV (F 2) (A 4) (A 6) (A 5) (fun p => rd m94 p) q
                    unfold alW LV
                    rw [if_pos hq]
                    by_cases q1 : rd (A 4) q ≤ F 2
                    · rw [if_pos q1, if_pos q1]
                      by_cases q2 : rd (A 6) q = 0
                      · rw [if_pos q2, if_pos q2]
                      · rw [if_neg q2, if_neg q2]
                        exact (hc2 q (by omega) q2).symm
                    · rw [if_neg q1, if_neg q1]) hQ hM hY hS) (fun r G9 hp9 => ?_)
                    obtain ⟨rfl, q104, q105, q107, q108, q109, q110, q111, ac, rfl, k104, k105, k107, k108, k109, k110, k111, hac, z107, z108⟩ := hp9
                    have y108 : rd q108 p = vW A F Q e Y (ck (A 6)) p.toNat j := by
                      have z1 := z108 p.toNat (by omega)
                      rw [show ((p.toNat : Nat) : Int) = p by omega] at z1
                      rw [z1, SPL_V hS]
                      rfl
                    have ynn : 0 ≤ rd q108 p := by
                      rw [y108]
                      exact (T_tp_bd hYb (fun q _ => alW_01 q) (R_TR hR) hn30 hQ p.toNat (by omega)).1
                    refine R_s (f' := (150, [some (vR 88), some (vI d), some (vI p), some (vI g), some (vI was), some (vI b), some (vI ws), some (vI x), some (vI kx), some (vI z)], [], LAY (u (u (u (u (u (u (u (u A0 94 m94) 109 q109) 104 q104) 105 q105) 110 q110) 111 q111) 108 q108) 107 q107) (u (u (u (u F0 28 Y) 29 ac) 30 mg) 31 lo), 0, 0)) hc154 0 rfl trivial ?_
                    refine R_s (P := True) (f' := (153, [some (vR 88), some (vI d), some (vI p), some (vI g), some (vI was), some (vI b), some (vI ws), some (vI x), some (vI kx), some (vI z)], [vI (-1), vI b], LAY (u (u (u (u (u (u (u (u A0 94 m94) 109 q109) 104 q104) 105 q105) 110 q110) 111 q111) 108 q108) 107 q107) (u (u (u (u F0 28 Y) 29 ac) 30 mg) 31 lo), 0, 0)) hc154 2 rfl trivial ?_
                    refine R_ic (t := 185) hc154 rfl rfl (fun (c2 : b = (-1)) => ?_) (fun (c2 : ¬ (b = (-1))) => ?_)
                    · refine R_s (P := (0 ≤ p ∧ p < ((q108).length : Int)) ∧ inI (x + 1) ∧ True) (f' := (81, [some (vR 88), some (vI d), some (vI p), some (vI g), some (vI was), some (vI (rd q108 p)), some (vI ws), some (vI (x + 1)), some (vI kx), some (vI z)], [], LAY (u (u (u (u (u (u (u (u A0 94 m94) 109 q109) 104 q104) 105 q105) 110 q110) 111 q111) 108 q108) 107 q107) (u (u (u (u F0 28 Y) 29 ac) 30 mg) 31 lo), 0, 0)) hc154 8 rfl ⟨⟨by omega, by omega⟩, ⟨by omega, by omega⟩, trivial⟩ ?_
                      have hb3 : j = 0 ∨ BEST g (vW A F Q e Y (ck (A 6)) p.toNat) j b := hb.elim (fun z => .inl z.1) (fun z => .inr z.2)
                      have hbn : 0 < j → 0 ≤ b := fun q => by
                        have z1 := (hb.resolve_left (fun z => by omega)).2.1
                        obtain ⟨i1, hi1, eb⟩ := z1
                        rw [eb]
                        exact (T_tp_bd hYb (fun q _ => alW_01 q) (R_TR hR) hn30 hQ p.toNat (by omega)).1
                      have hb4 : j = 0 → b = -1 := fun q => by
                        rcases hb with z | z
                        · exact z.2
                        · omega
                      refine R_s (P := True) (f' := (81, [some (vR 88), some (vI d), some (vI p), some (vI g), some (vI was), some (vI (rd q108 p)), some (vI ws), some (vI (x + 1)), some (vI kx), some (vI z)], [], LAY (u (u (u (u (u (u (u (u A0 109 q109) 104 q104) 105 q105) 110 q110) 111 q111) 108 q108) 107 q107) 94 m94) (u (u (u (u F0 28 Y) 29 ac) 30 mg) 31 lo), 0, 0)) hc154 0 rfl trivial ?_
                      refine ihj (j + 1) _ _ _ _ _ _ _ _ _ _ _ _ _ _ _ _ (by omega) k109 k104 k105 k110 k111 k108 k107 hm94 ha hb2 (.inr ⟨by omega, ?_⟩) (by omega) (by omega)
                      rw [y108]
                      exact BEST_new hb3 (by rw [← y108]; omega)
                    · refine R_s (P := True) (f' := (157, [some (vR 88), some (vI d), some (vI p), some (vI g), some (vI was), some (vI b), some (vI ws), some (vI x), some (vI kx), some (vI z)], [vI g], LAY (u (u (u (u (u (u (u (u A0 94 m94) 109 q109) 104 q104) 105 q105) 110 q110) 111 q111) 108 q108) 107 q107) (u (u (u (u F0 28 Y) 29 ac) 30 mg) 31 lo), 0, 0)) hc154 1 rfl trivial ?_
                      refine R_if (t := 174) hc154 rfl rfl (fun (c3 : g = 0) => ?_) (fun (c3 : ¬ (g = 0)) => ?_)
                      · refine R_s (P := (0 ≤ p ∧ p < ((q108).length : Int)) ∧ True) (f' := (182, [some (vR 88), some (vI d), some (vI p), some (vI g), some (vI was), some (vI b), some (vI ws), some (vI x), some (vI kx), some (vI z)], [vI b, vI (rd q108 p)], LAY (u (u (u (u (u (u (u (u A0 94 m94) 109 q109) 104 q104) 105 q105) 110 q110) 111 q111) 108 q108) 107 q107) (u (u (u (u F0 28 Y) 29 ac) 30 mg) 31 lo), 0, 0)) hc154 5 rfl ⟨⟨by omega, by omega⟩, trivial⟩ ?_
                        refine R_ic (t := 194) hc154 rfl rfl (fun (c4 : b ≤ rd q108 p) => ?_) (fun (c4 : ¬ (b ≤ rd q108 p)) => ?_)
                        · refine R_s (P := inI (x + 1) ∧ True) (f' := (81, [some (vR 88), some (vI d), some (vI p), some (vI g), some (vI was), some (vI b), some (vI ws), some (vI (x + 1)), some (vI kx), some (vI z)], [], LAY (u (u (u (u (u (u (u (u A0 94 m94) 109 q109) 104 q104) 105 q105) 110 q110) 111 q111) 108 q108) 107 q107) (u (u (u (u F0 28 Y) 29 ac) 30 mg) 31 lo), 0, 0)) hc154 4 rfl ⟨⟨by omega, by omega⟩, trivial⟩ ?_
                          have hb3 : j = 0 ∨ BEST g (vW A F Q e Y (ck (A 6)) p.toNat) j b := hb.elim (fun z => .inl z.1) (fun z => .inr z.2)
                          have hbn : 0 < j → 0 ≤ b := fun q => by
                            have z1 := (hb.resolve_left (fun z => by omega)).2.1
                            obtain ⟨i1, hi1, eb⟩ := z1
                            rw [eb]
                            exact (T_tp_bd hYb (fun q _ => alW_01 q) (R_TR hR) hn30 hQ p.toNat (by omega)).1
                          have hb4 : j = 0 → b = -1 := fun q => by
                            rcases hb with z | z
                            · exact z.2
                            · omega
                          refine R_s (P := True) (f' := (81, [some (vR 88), some (vI d), some (vI p), some (vI g), some (vI was), some (vI b), some (vI ws), some (vI (x + 1)), some (vI kx), some (vI z)], [], LAY (u (u (u (u (u (u (u (u A0 109 q109) 104 q104) 105 q105) 110 q110) 111 q111) 108 q108) 107 q107) 94 m94) (u (u (u (u F0 28 Y) 29 ac) 30 mg) 31 lo), 0, 0)) hc154 0 rfl trivial ?_
                          refine ihj (j + 1) _ _ _ _ _ _ _ _ _ _ _ _ _ _ _ _ (by omega) k109 k104 k105 k110 k111 k108 k107 hm94 ha hb2 (.inr ⟨by omega, ?_⟩) (by omega) (by omega)
                          exact BEST_old (hb3.resolve_left (by omega)) (by rw [← y108]; omega)
                        · refine R_s (P := (0 ≤ p ∧ p < ((q108).length : Int)) ∧ inI (x + 1) ∧ True) (f' := (81, [some (vR 88), some (vI d), some (vI p), some (vI g), some (vI was), some (vI (rd q108 p)), some (vI ws), some (vI (x + 1)), some (vI kx), some (vI z)], [], LAY (u (u (u (u (u (u (u (u A0 94 m94) 109 q109) 104 q104) 105 q105) 110 q110) 111 q111) 108 q108) 107 q107) (u (u (u (u F0 28 Y) 29 ac) 30 mg) 31 lo), 0, 0)) hc154 8 rfl ⟨⟨by omega, by omega⟩, ⟨by omega, by omega⟩, trivial⟩ ?_
                          have hb3 : j = 0 ∨ BEST g (vW A F Q e Y (ck (A 6)) p.toNat) j b := hb.elim (fun z => .inl z.1) (fun z => .inr z.2)
                          have hbn : 0 < j → 0 ≤ b := fun q => by
                            have z1 := (hb.resolve_left (fun z => by omega)).2.1
                            obtain ⟨i1, hi1, eb⟩ := z1
                            rw [eb]
                            exact (T_tp_bd hYb (fun q _ => alW_01 q) (R_TR hR) hn30 hQ p.toNat (by omega)).1
                          have hb4 : j = 0 → b = -1 := fun q => by
                            rcases hb with z | z
                            · exact z.2
                            · omega
                          refine R_s (P := True) (f' := (81, [some (vR 88), some (vI d), some (vI p), some (vI g), some (vI was), some (vI (rd q108 p)), some (vI ws), some (vI (x + 1)), some (vI kx), some (vI z)], [], LAY (u (u (u (u (u (u (u (u A0 109 q109) 104 q104) 105 q105) 110 q110) 111 q111) 108 q108) 107 q107) 94 m94) (u (u (u (u F0 28 Y) 29 ac) 30 mg) 31 lo), 0, 0)) hc154 0 rfl trivial ?_
                          refine ihj (j + 1) _ _ _ _ _ _ _ _ _ _ _ _ _ _ _ _ (by omega) k109 k104 k105 k110 k111 k108 k107 hm94 ha hb2 (.inr ⟨by omega, ?_⟩) (by omega) (by omega)
                          rw [y108]
                          exact BEST_new hb3 (by rw [← y108]; omega)
                      · refine R_s (P := (0 ≤ p ∧ p < ((q108).length : Int)) ∧ True) (f' := (168, [some (vR 88), some (vI d), some (vI p), some (vI g), some (vI was), some (vI b), some (vI ws), some (vI x), some (vI kx), some (vI z)], [vI b, vI (rd q108 p)], LAY (u (u (u (u (u (u (u (u A0 94 m94) 109 q109) 104 q104) 105 q105) 110 q110) 111 q111) 108 q108) 107 q107) (u (u (u (u F0 28 Y) 29 ac) 30 mg) 31 lo), 0, 0)) hc154 5 rfl ⟨⟨by omega, by omega⟩, trivial⟩ ?_
                        refine R_ic (t := 194) hc154 rfl rfl (fun (c5 : rd q108 p ≤ b) => ?_) (fun (c5 : ¬ (rd q108 p ≤ b)) => ?_)
                        · refine R_s (P := inI (x + 1) ∧ True) (f' := (81, [some (vR 88), some (vI d), some (vI p), some (vI g), some (vI was), some (vI b), some (vI ws), some (vI (x + 1)), some (vI kx), some (vI z)], [], LAY (u (u (u (u (u (u (u (u A0 94 m94) 109 q109) 104 q104) 105 q105) 110 q110) 111 q111) 108 q108) 107 q107) (u (u (u (u F0 28 Y) 29 ac) 30 mg) 31 lo), 0, 0)) hc154 4 rfl ⟨⟨by omega, by omega⟩, trivial⟩ ?_
                          have hb3 : j = 0 ∨ BEST g (vW A F Q e Y (ck (A 6)) p.toNat) j b := hb.elim (fun z => .inl z.1) (fun z => .inr z.2)
                          have hbn : 0 < j → 0 ≤ b := fun q => by
                            have z1 := (hb.resolve_left (fun z => by omega)).2.1
                            obtain ⟨i1, hi1, eb⟩ := z1
                            rw [eb]
                            exact (T_tp_bd hYb (fun q _ => alW_01 q) (R_TR hR) hn30 hQ p.toNat (by omega)).1
                          have hb4 : j = 0 → b = -1 := fun q => by
                            rcases hb with z | z
                            · exact z.2
                            · omega
                          refine R_s (P := True) (f' := (81, [some (vR 88), some (vI d), some (vI p), some (vI g), some (vI was), some (vI b), some (vI ws), some (vI (x + 1)), some (vI kx), some (vI z)], [], LAY (u (u (u (u (u (u (u (u A0 109 q109) 104 q104) 105 q105) 110 q110) 111 q111) 108 q108) 107 q107) 94 m94) (u (u (u (u F0 28 Y) 29 ac) 30 mg) 31 lo), 0, 0)) hc154 0 rfl trivial ?_
                          refine ihj (j + 1) _ _ _ _ _ _ _ _ _ _ _ _ _ _ _ _ (by omega) k109 k104 k105 k110 k111 k108 k107 hm94 ha hb2 (.inr ⟨by omega, ?_⟩) (by omega) (by omega)
                          exact BEST_old (hb3.resolve_left (by omega)) (by rw [← y108]; omega)
                        · refine R_s (P := (0 ≤ p ∧ p < ((q108).length : Int)) ∧ inI (x + 1) ∧ True) (f' := (81, [some (vR 88), some (vI d), some (vI p), some (vI g), some (vI was), some (vI (rd q108 p)), some (vI ws), some (vI (x + 1)), some (vI kx), some (vI z)], [], LAY (u (u (u (u (u (u (u (u A0 94 m94) 109 q109) 104 q104) 105 q105) 110 q110) 111 q111) 108 q108) 107 q107) (u (u (u (u F0 28 Y) 29 ac) 30 mg) 31 lo), 0, 0)) hc154 9 rfl ⟨⟨by omega, by omega⟩, ⟨by omega, by omega⟩, trivial⟩ ?_
                          have hb3 : j = 0 ∨ BEST g (vW A F Q e Y (ck (A 6)) p.toNat) j b := hb.elim (fun z => .inl z.1) (fun z => .inr z.2)
                          have hbn : 0 < j → 0 ≤ b := fun q => by
                            have z1 := (hb.resolve_left (fun z => by omega)).2.1
                            obtain ⟨i1, hi1, eb⟩ := z1
                            rw [eb]
                            exact (T_tp_bd hYb (fun q _ => alW_01 q) (R_TR hR) hn30 hQ p.toNat (by omega)).1
                          have hb4 : j = 0 → b = -1 := fun q => by
                            rcases hb with z | z
                            · exact z.2
                            · omega
                          refine R_s (P := True) (f' := (81, [some (vR 88), some (vI d), some (vI p), some (vI g), some (vI was), some (vI (rd q108 p)), some (vI ws), some (vI (x + 1)), some (vI kx), some (vI z)], [], LAY (u (u (u (u (u (u (u (u A0 109 q109) 104 q104) 105 q105) 110 q110) 111 q111) 108 q108) 107 q107) 94 m94) (u (u (u (u F0 28 Y) 29 ac) 30 mg) 31 lo), 0, 0)) hc154 0 rfl trivial ?_
                          refine ihj (j + 1) _ _ _ _ _ _ _ _ _ _ _ _ _ _ _ _ (by omega) k109 k104 k105 k110 k111 k108 k107 hm94 ha hb2 (.inr ⟨by omega, ?_⟩) (by omega) (by omega)
                          rw [y108]
                          exact BEST_new hb3 (by rw [← y108]; omega)
                  · refine R_s (P := (0 ≤ z ∧ z < ((A0 93).length : Int)) ∧ True) (f' := (110, [some (vR 88), some (vI d), some (vI p), some (vI g), some (vI was), some (vI b), some (vI ws), some (vI x), some (vI kx), some (vI z)], [vI (rd (A0 93) z)], LAY (u (u (u (u (u (u (u (u A0 109 l109) 104 l104) 105 l105) 110 l110) 111 l111) 108 l108) 107 l107) 94 m94) (u (u (u (u F0 28 v28) 29 v29) 30 v30) 31 v31), 0, 0)) hc154 4 rfl ⟨⟨by omega, by omega⟩, trivial⟩ ?_
                    refine R_if (t := 139) hc154 rfl rfl (fun (c6 : rd (A0 93) z = 0) => ?_) (fun (c6 : ¬ (rd (A0 93) z = 0)) => ?_)
                    · refine R_s (P := inI (z + 1) ∧ True) (f' := (94, [some (vR 88), some (vI d), some (vI p), some (vI g), some (vI was), some (vI b), some (vI ws), some (vI x), some (vI kx), some (vI (z + 1))], [], LAY (u (u (u (u (u (u (u (u A0 109 l109) 104 l104) 105 l105) 110 l110) 111 l111) 108 l108) 107 l107) 94 m94) (u (u (u (u F0 28 v28) 29 v29) 30 v30) 31 v31), 0, 0)) hc154 2 rfl ⟨⟨by omega, by omega⟩, trivial⟩ ?_
                      refine R_s (P := True) (f' := (94, [some (vR 88), some (vI d), some (vI p), some (vI g), some (vI was), some (vI b), some (vI ws), some (vI x), some (vI kx), some (vI (z + 1))], [], LAY (u (u (u (u (u (u (u (u A0 109 l109) 104 l104) 105 l105) 110 l110) 111 l111) 108 l108) 107 l107) 94 m94) (u (u (u (u F0 28 v28) 29 v29) 30 v30) 31 v31), 0, 0)) hc154 0 rfl trivial ?_
                      refine ih (i + 1) _ _ _ (by omega) (by simp only [ck]; rw [if_pos (by omega)]; omega) hm94 ha hb2 (fun q hq hu => ?_) (by omega) (by omega)
                      by_cases e3 : q = i
                      · rw [e3] at hu
                        exact absurd (by omega) hu
                      · exact hc2 q (by omega) hu
                    · refine R_s (P := (0 ≤ kx ∧ kx < 32) ∧ (1 = 1 ∨ 1 = 63 ∨ 1 = 255) ∧ True) (f' := (127, [some (vR 88), some (vI d), some (vI p), some (vI g), some (vI was), some (vI b), some (vI ws), some (vI x), some (vI kx), some (vI z)], [vI 1, vI ((x / 2 ^ (kx : Int).toNat) % (1 + 1)), vI z, vR 94], LAY (u (u (u (u (u (u (u (u A0 109 l109) 104 l104) 105 l105) 110 l110) 111 l111) 108 l108) 107 l107) 94 m94) (u (u (u (u F0 28 v28) 29 v29) 30 v30) 31 v31), 0, 0)) hc154 9 rfl ⟨⟨by omega, by omega⟩, (by decide), trivial⟩ ?_
                      refine R_ic (t := 134) hc154 rfl rfl (fun (c7 : ¬ (x / 2 ^ (kx : Int).toNat) % (1 + 1) = 1) => ?_) (fun (c7 : ¬ (¬ (x / 2 ^ (kx : Int).toNat) % (1 + 1) = 1)) => ?_)
                      · refine R_s (P := ((0 ≤ z ∧ z < ((m94).length : Int)) ∧ (0 = 0 ∨ 0 = 1)) ∧ inI (kx + 1) ∧ inI (z + 1) ∧ True) (f' := (94, [some (vR 88), some (vI d), some (vI p), some (vI g), some (vI was), some (vI b), some (vI ws), some (vI x), some (vI (kx + 1)), some (vI (z + 1))], [], LAY (u (u (u (u (u (u (u (u A0 109 l109) 104 l104) 105 l105) 110 l110) 111 l111) 108 l108) 107 l107) 94 (wr m94 z 0)) (u (u (u (u F0 28 v28) 29 v29) 30 v30) 31 v31), 0, 0)) hc154 5 rfl ⟨⟨⟨by omega, by omega⟩, by omega⟩, ⟨by omega, by omega⟩, ⟨by omega, by omega⟩, trivial⟩ ?_
                        refine R_s (P := True) (f' := (94, [some (vR 88), some (vI d), some (vI p), some (vI g), some (vI was), some (vI b), some (vI ws), some (vI x), some (vI (kx + 1)), some (vI (z + 1))], [], LAY (u (u (u (u (u (u (u (u A0 109 l109) 104 l104) 105 l105) 110 l110) 111 l111) 108 l108) 107 l107) 94 (wr m94 z 0)) (u (u (u (u F0 28 v28) 29 v29) 30 v30) 31 v31), 0, 0)) hc154 0 rfl trivial ?_
                        refine ih (i + 1) _ _ _ (by omega) (by simp only [ck]; rw [if_neg (by omega)]; omega) (by rw [wr_len]; exact hm94) (fun q hq => ?_) (fun q hq hq2 => ?_) (fun q hq hu => ?_) (by omega) (by omega)
                        · rw [rd_wr (by omega) (by omega) (by omega)]
                          split
                          · first | exact .inl rfl | exact .inr rfl
                          · exact ha q hq
                        · rw [rd_wr (by omega) (by omega) (by omega), if_neg (by omega)]
                          exact hb2 q hq hq2
                        · rw [rd_wr (by omega) (by omega) (by omega)]
                          by_cases e9 : (q : Int) = z
                          · rw [if_pos e9, show q = i by omega]
                            omega
                          · rw [if_neg e9]
                            exact hc2 q (by omega) hu
                      · refine R_s (P := ((0 ≤ z ∧ z < ((m94).length : Int)) ∧ (1 = 0 ∨ 1 = 1)) ∧ inI (kx + 1) ∧ inI (z + 1) ∧ True) (f' := (94, [some (vR 88), some (vI d), some (vI p), some (vI g), some (vI was), some (vI b), some (vI ws), some (vI x), some (vI (kx + 1)), some (vI (z + 1))], [], LAY (u (u (u (u (u (u (u (u A0 109 l109) 104 l104) 105 l105) 110 l110) 111 l111) 108 l108) 107 l107) 94 (wr m94 z 1)) (u (u (u (u F0 28 v28) 29 v29) 30 v30) 31 v31), 0, 0)) hc154 6 rfl ⟨⟨⟨by omega, by omega⟩, by omega⟩, ⟨by omega, by omega⟩, ⟨by omega, by omega⟩, trivial⟩ ?_
                        refine R_s (P := True) (f' := (94, [some (vR 88), some (vI d), some (vI p), some (vI g), some (vI was), some (vI b), some (vI ws), some (vI x), some (vI (kx + 1)), some (vI (z + 1))], [], LAY (u (u (u (u (u (u (u (u A0 109 l109) 104 l104) 105 l105) 110 l110) 111 l111) 108 l108) 107 l107) 94 (wr m94 z 1)) (u (u (u (u F0 28 v28) 29 v29) 30 v30) 31 v31), 0, 0)) hc154 0 rfl trivial ?_
                        refine ih (i + 1) _ _ _ (by omega) (by simp only [ck]; rw [if_neg (by omega)]; omega) (by rw [wr_len]; exact hm94) (fun q hq => ?_) (fun q hq hq2 => ?_) (fun q hq hu => ?_) (by omega) (by omega)
                        · rw [rd_wr (by omega) (by omega) (by omega)]
                          split
                          · first | exact .inl rfl | exact .inr rfl
                          · exact ha q hq
                        · rw [rd_wr (by omega) (by omega) (by omega), if_neg (by omega)]
                          exact hb2 q hq hq2
                        · rw [rd_wr (by omega) (by omega) (by omega)]
                          by_cases e9 : (q : Int) = z
                          · rw [if_pos e9, show q = i by omega]
                            omega
                          · rw [if_neg e9]
                            exact hc2 q (by omega) hu
              refine R_s (P := True) (f' := (94, [some (vR 88), some (vI d), some (vI p), some (vI g), some (vI was), some (vI b), some (vI ws), some (vI x), some (vI 0), some (vI 0)], [], LAY (u (u (u (u (u (u (u (u A0 109 l109) 104 l104) 105 l105) 110 l110) 111 l111) 108 l108) 107 l107) 94 l94) (u (u (u (u F0 28 v28) 29 v29) 30 v30) 31 v31), 0, 0)) hc154 0 rfl trivial ?_
              exact li ((F 3).toNat + 1) 0 _ _ _ rfl rfl hl94 hl94a hl94b (fun q hq => absurd hq (by omega)) (by omega) (by omega)
        refine R_s (P := True) (f' := (81, [some (vR 88), some (vI d), some (vI p), some (vI g), some (vI was), some (vI (-1)), some (vI ws), some (vI 0), none, none], [], LAY (u (u (u (u (u (u (u (u A0 109 (A0 109)) 104 (A0 104)) 105 (A0 105)) 110 (A0 110)) 111 (A0 111)) 108 (A0 108)) 107 (A0 107)) 94 (A0 94)) (u (u (u (u F0 28 (F0 28)) 29 (F0 29)) 30 (F0 30)) 31 (F0 31)), 0, 0)) hc154 0 rfl trivial ?_
        exact lp (2 ^ ck (A 6) (F 3).toNat + 1) 0 _ _ _ _ _ _ _ _ _ _ _ _ _ _ _ _ rfl g109 g104 g105 g110 g111 g108 g107 g94 (fun q hq => by rw [e94]; exact (R_mT hR q hq).1) (fun q _ _ => rfl) (.inl ⟨rfl, rfl⟩) (by omega) (by omega)
      · refine R_s (P := (0 ≤ x ∧ x < ((A0 94).length : Int)) ∧ True) (f' := (47, [some (vR 88), some (vI d), some (vI p), some (vI g), some (vI was), some (vI x), none, none, none, none], [vI (rd (A0 94) x), vI was], LAY A0 F0, 0, 0)) hc154 5 rfl ⟨⟨by omega, by omega⟩, trivial⟩ ?_
        refine R_if (t := 57) hc154 rfl rfl (fun (c2 : rd (A0 94) x = 0) => ?_) (fun (c2 : ¬ (rd (A0 94) x = 0)) => ?_)
        · refine R_s (P := (0 ≤ was ∧ 0 ≤ 0) ∧ inI (x + 1) ∧ True) (f' := (29, [some (vR 88), some (vI d), some (vI p), some (vI g), some (vI (((was : Int).toNat ||| (0 : Int).toNat : Nat) : Int)), some (vI (x + 1)), none, none, none, none], [], LAY A0 F0, 0, 0)) hc154 5 rfl ⟨⟨by omega, by omega⟩, ⟨by omega, by omega⟩, trivial⟩ ?_
          refine ih (i + 1) _ _ W (by omega) ?_ (by rw [Nat.pow_succ]; omega) (fun q hq => ?_) (by omega) (by omega)
          · rw [hwas, Int.toNat_natCast, show ((0 : Int)).toNat = 0 from rfl, Nat.or_zero]
          · by_cases e3 : q = i
            · rw [e3, ← ex, Nat.div_eq_of_lt hWl]
              omega
            · exact hW q (by omega)
        · refine R_s (P := (0 ≤ x ∧ x < 31 ∧ 0 ≤ 1 ∧ 1 * 2 ^ (x : Int).toNat ≤ 2147483647) ∧ (0 ≤ was ∧ 0 ≤ 1 * 2 ^ (x : Int).toNat) ∧ inI (x + 1) ∧ True) (f' := (29, [some (vR 88), some (vI d), some (vI p), some (vI g), some (vI (((was : Int).toNat ||| (1 * 2 ^ (x : Int).toNat : Int).toNat : Nat) : Int)), some (vI (x + 1)), none, none, none, none], [], LAY A0 F0, 0, 0)) hc154 8 rfl ⟨⟨by omega, by omega, by omega, by (first | (rw [ep]; omega) | (rw [Int.toNat_natCast, Int.one_mul]; have z := h32; have z2 : ((2 ^ ck (A 6) (F 3).toNat : Nat) : Int) ≤ 32 := (by omega); push_cast at z2; omega))⟩, ⟨by omega, by omega⟩, ⟨by omega, by omega⟩, trivial⟩ ?_
          have eo : W ||| 2 ^ i = W + 2 ^ i := by
            have z := Nat.two_pow_add_eq_or_of_lt hWl 1
            rw [Nat.mul_one] at z
            rw [Nat.or_comm, ← z, Nat.add_comm]
          refine ih (i + 1) _ _ (W + 2 ^ i) (by omega) ?_ (by rw [Nat.pow_succ]; omega) (fun q hq => ?_) (by omega) (by omega)
          · rw [ep, hwas, Int.toNat_natCast, Int.toNat_natCast, eo]
          · by_cases e3 : q = i
            · rw [e3, ← ex, show W + 2 ^ i = W + 1 * 2 ^ i by rw [Nat.one_mul], Nat.add_mul_div_right _ _ (Nat.two_pow_pos _), Nat.div_eq_of_lt hWl]
              have := e01 (by omega)
              omega
            · rw [← hW q (by omega)]
              obtain ⟨k2, hk2⟩ : ∃ k2, i = k2 + 1 + q := ⟨i - 1 - q, by omega⟩
              have e4 : (2 : Nat) ^ i = 2 ^ k2 * 2 * 2 ^ q := by rw [hk2, Nat.pow_add, Nat.pow_succ]
              rw [e4, Nat.add_mul_div_right _ _ (Nat.two_pow_pos _), Nat.add_mul_mod_self_right]
  refine R_s (P := True) (f' := (29, [some (vR 88), some (vI d), some (vI p), some (vI g), some (vI 0), some (vI 0), none, none, none, none], [], LAY A0 F0, 0, 0)) hc154 4 rfl trivial ?_
  exact l1 ((F 3).toNat + 1) 0 _ _ 0 rfl rfl (by decide) (fun q hq => absurd hq (by omega)) (by omega) (by omega)

theorem op_bound_n {c : Int} {A : Nat → List Int} {F : Nat → Int} (hR : REL c A F) (hc : c < 512) (d p g : Int) (i_d : inI d) (i_p : inI p) (i_g : inI g) (hd : d < 0) (hx : g = 0 ∨ g = 1) : R 80 (0, L0 80 [vR 1, vI d, vI p, vI g], [], LAY (shA A) (shF F), 0, 0) (fun r G => (∃ x, r = some (vI x)) ∧ (∃ (A1 : Nat → List Int) (F1 : Nat → Int), G = LAY A1 F1 ∧ A1 0 = A 0) ∧ R 154 (0, L0 154 [vR 88, vI d, vI p, vI g], [], G, 0, 0) (fun r2 G2 => r2 = r ∧ ∃ (A' : Nat → List Int) (F' : Nat → Int), G2 = LAY (shA A') (shF F') ∧ A' 0 = A 0 ∧ REL (c + 1) A' F')) := by
  have hR0 := hR
  obtain ⟨hL, hPE, hTH, hTP, hDE, hLE, hNO, hAC, hRO, hRE⟩ := hR
  have j_d := i_d
  unfold inI at j_d
  have j_p := i_p
  unfold inI at j_p
  have j_g := i_g
  unfold inI at j_g
  have h87 : (A 87).length = 9 := hL 87 (by decide)
  have r2 := REFU_at hRE (k := 2) (by decide) (by decide) hc
  have r3 := REFU_at hRE (k := 3) (by decide) (by decide) hc
  have r4 := REFU_at hRE (k := 4) (by decide) (by decide) hc
  have r5 := REFU_at hRE (k := 5) (by decide) (by decide) hc
  have r6 := REFU_at hRE (k := 6) (by decide) (by decide) hc
  have r7 := REFU_at hRE (k := 7) (by decide) (by decide) hc
  have r8 := REFU_at hRE (k := 8) (by decide) (by decide) hc
  obtain ⟨t1, t2, t3, t4, t5, t6⟩ := hTH
  obtain ⟨p1, p2, p3, p4, p5, p6⟩ := hPE
  refine R_s (P := True) (f' := (2, [some (vR 1), some (vI d), some (vI p), some (vI g), none, none, none, none, none, none], [vI d, vR 1], LAY (shA A) (shF F), 0, 0)) hc80 2 rfl trivial ?_
  refine R_cv hc80 rfl rfl ?_ (fun r G h => h)
  refine R_s (P := True) (f' := (2, [some (vR 1), some (vI d)], [vI d, vR 1], LAY (shA A) (shF F), 0, 0)) hc99 2 rfl trivial ?_
  refine R_cv hc99 rfl rfl ?_ (fun r G h => h)
  refine R_s (P := True) (f' := (1, [some (vR 1), some (vI d)], [vI d], LAY (shA A) (shF F), 0, 0)) hc98 1 rfl trivial ?_
  refine R_if (t := 16) hc98 rfl rfl (fun (_ : d < 0) => ?_) (fun (z : ¬ (d < 0)) => absurd (show d < 0 by omega) z)
  refine R_s (P := True) (f' := (17, [some (vR 1), some (vI d)], [vI 0], LAY (shA A) (shF F), 0, 0)) hc98 1 rfl trivial ?_
  refine R_retz hc98 rfl rfl (Or.inl rfl) ?_
  refine R_s (f' := (5, [some (vR 1), some (vI d)], [vI 0], LAY (shA A) (shF F), 0, 0)) hc99 0 rfl trivial ?_
  refine R_if (t := 17) hc99 rfl rfl (fun (_ : 0 = 0) => ?_) (fun (z : ¬ (0 = 0)) => absurd (by decide) z)
  refine R_s (P := True) (f' := (18, [some (vR 1), some (vI d)], [vN], LAY (shA A) (shF F), 0, 0)) hc99 1 rfl trivial ?_
  refine R_reta hc99 rfl rfl ?_
  refine R_s (f' := (5, [some (vR 1), some (vI d), some (vI p), some (vI g), none, none, none, none, none, none], [vN], LAY (shA A) (shF F), 0, 0)) hc80 0 rfl trivial ?_
  refine R_s (P := True) (f' := (26, [some (vR 1), some (vI d), some (vI p), some (vI g), some (vN), none, none, none, none, none], [vI (-3), vR 1], LAY (shA A) (shF F), 0, 0)) hc80 5 rfl trivial ?_
  refine R_cv hc80 rfl rfl ?_ (fun r G h => h)
  refine R_s (P := True) (f' := (3, [some (vR 1), some (vI (-3))], [vI (-2), vI (-3)], LAY (shA A) (shF F), 0, 0)) hc93 2 rfl trivial ?_
  refine R_ic (t := 23) hc93 rfl rfl (fun (z : (-2) < (-3)) => absurd z (by decide)) (fun (_ : ¬ ((-2) < (-3))) => ?_)
  refine R_s (P := True) (f' := (9, [some (vR 1), some (vI (-3))], [vI (-8), vI (-3)], LAY (shA A) (shF F), 0, 0)) hc93 2 rfl trivial ?_
  refine R_ic (t := 23) hc93 rfl rfl (fun (z : (-3) < (-8)) => absurd z (by decide)) (fun (_ : ¬ ((-3) < (-8))) => ?_)
  refine R_s (P := inI 3 ∧ (0 ≤ 3 ∧ 3 < ((A 87).length : Int)) ∧ inI ((rd (A 87) 3) + 1) ∧ (0 ≤ 3 ∧ 3 < ((A 87).length : Int)) ∧ True) (f' := (24, [some (vR 1), some (vI (-3))], [vI (-3)], LAY (u (shA A) 87 (wr (A 87) 3 ((rd (A 87) 3) + 1))) (shF F), 0, 0)) hc93 10 rfl ⟨⟨by omega, by omega⟩, ⟨by omega, by omega⟩, ⟨by omega, by omega⟩, ⟨by omega, by omega⟩, trivial⟩ ?_
  refine R_reti hc93 rfl rfl ?_
  refine R_s (f' := (29, [some (vR 1), some (vI d), some (vI p), some (vI g), some (vN), none, none, none, none, none], [vI (-3)], LAY (u (shA A) 87 (wr (A 87) 3 ((rd (A 87) 3) + 1))) (shF F), 0, 0)) hc80 0 rfl trivial ?_
  refine R_reti hc80 rfl rfl ⟨⟨_, rfl⟩, ⟨_, _, rfl, rfl⟩, ?_⟩
  refine R_s (P := True) (f' := (2, [some (vR 88), some (vI d), some (vI p), some (vI g), none, none, none, none, none, none], [vI d, vR 88], LAY (u (shA A) 87 (wr (A 87) 3 ((rd (A 87) 3) + 1))) (shF F), 0, 0)) hc154 2 rfl trivial ?_
  refine R_cv hc154 rfl rfl ?_ (fun r G h => h)
  refine R_s (P := inI ((F 0) - 1) ∧ True) (f' := (8, [some (vR 88), some (vI d)], [vI ((F 0) - 1), vI 0, vI d], LAY (u (shA A) 87 (wr (A 87) 3 ((rd (A 87) 3) + 1))) (shF F), 0, 0)) hc108 6 rfl ⟨⟨by omega, by omega⟩, trivial⟩ ?_
  refine R_cs hc108 rfl rfl ?_ (fun r G h => h)
  refine R_s (P := True) (f' := (2, [some (vI d), some (vI 0), some (vI ((F 0) - 1))], [vI 0, vI d], LAY (u (shA A) 87 (wr (A 87) 3 ((rd (A 87) 3) + 1))) (shF F), 0, 0)) hc104 2 rfl trivial ?_
  refine R_ic (t := 14) hc104 rfl rfl (fun (_ : d < 0) => ?_) (fun (z : ¬ (d < 0)) => absurd (show d < 0 by omega) z)
  refine R_s (P := True) (f' := (15, [some (vI d), some (vI 0), some (vI ((F 0) - 1))], [vI 0], LAY (u (shA A) 87 (wr (A 87) 3 ((rd (A 87) 3) + 1))) (shF F), 0, 0)) hc104 1 rfl trivial ?_
  refine R_retz hc104 rfl rfl (Or.inl rfl) ?_
  refine R_s (f' := (11, [some (vR 88), some (vI d)], [vI 0], LAY (u (shA A) 87 (wr (A 87) 3 ((rd (A 87) 3) + 1))) (shF F), 0, 0)) hc108 0 rfl trivial ?_
  refine R_retz hc108 rfl rfl (Or.inl rfl) ?_
  refine R_s (f' := (5, [some (vR 88), some (vI d), some (vI p), some (vI g), none, none, none, none, none, none], [vI 0], LAY (u (shA A) 87 (wr (A 87) 3 ((rd (A 87) 3) + 1))) (shF F), 0, 0)) hc154 0 rfl trivial ?_
  refine R_if (t := 16) hc154 rfl rfl (fun (_ : 0 = 0) => ?_) (fun (z : ¬ (0 = 0)) => absurd (by decide) z)
  refine R_s (P := True) (f' := (19, [some (vR 88), some (vI d), some (vI p), some (vI g), none, none, none, none, none, none], [vI (-3), vR 88], LAY (u (shA A) 87 (wr (A 87) 3 ((rd (A 87) 3) + 1))) (shF F), 0, 0)) hc154 2 rfl trivial ?_
  refine R_cv hc154 rfl rfl ?_ (fun r G h => h)
  refine R_s (P := inI 3 ∧ (0 ≤ 3 ∧ 3 < ((A 87).length : Int)) ∧ inI ((rd (A 87) 3) + 1) ∧ (0 ≤ 3 ∧ 3 < ((A 87).length : Int)) ∧ True) (f' := (12, [some (vR 88), some (vI (-3))], [vI (-3)], LAY (u (u (shA A) 87 (wr (A 87) 3 ((rd (A 87) 3) + 1))) 89 (wr (A 87) 3 ((rd (A 87) 3) + 1))) (shF F), 0, 0)) hc105 10 rfl ⟨⟨by omega, by omega⟩, ⟨by omega, by omega⟩, ⟨by omega, by omega⟩, ⟨by omega, by omega⟩, trivial⟩ ?_
  refine R_reti hc105 rfl rfl ?_
  refine R_s (f' := (22, [some (vR 88), some (vI d), some (vI p), some (vI g), none, none, none, none, none, none], [vI (-3)], LAY (u (u (shA A) 87 (wr (A 87) 3 ((rd (A 87) 3) + 1))) 89 (wr (A 87) 3 ((rd (A 87) 3) + 1))) (shF F), 0, 0)) hc154 0 rfl trivial ?_
  refine R_reti hc154 rfl rfl ?_
  first
    | (exfalso; omega; done)
    | exact ⟨rfl, (u A 87 (wr (A 87) 3 ((rd (A 87) 3) + 1))), F, rfl, rfl, REL_ref hR0 (by decide) (by decide)⟩

theorem op_bound_b {c : Int} {A : Nat → List Int} {F : Nat → Int} (hR : REL c A F) (hc : c < 512) (d p g : Int) (i_d : inI d) (i_p : inI p) (i_g : inI g) (hd : 0 ≤ d ∧ F 0 ≤ d) (hx : g = 0 ∨ g = 1) : R 80 (0, L0 80 [vR 1, vI d, vI p, vI g], [], LAY (shA A) (shF F), 0, 0) (fun r G => (∃ x, r = some (vI x)) ∧ (∃ (A1 : Nat → List Int) (F1 : Nat → Int), G = LAY A1 F1 ∧ A1 0 = A 0) ∧ R 154 (0, L0 154 [vR 88, vI d, vI p, vI g], [], G, 0, 0) (fun r2 G2 => r2 = r ∧ ∃ (A' : Nat → List Int) (F' : Nat → Int), G2 = LAY (shA A') (shF F') ∧ A' 0 = A 0 ∧ REL (c + 1) A' F')) := by
  have hR0 := hR
  obtain ⟨hL, hPE, hTH, hTP, hDE, hLE, hNO, hAC, hRO, hRE⟩ := hR
  have j_d := i_d
  unfold inI at j_d
  have j_p := i_p
  unfold inI at j_p
  have j_g := i_g
  unfold inI at j_g
  have h87 : (A 87).length = 9 := hL 87 (by decide)
  have r2 := REFU_at hRE (k := 2) (by decide) (by decide) hc
  have r3 := REFU_at hRE (k := 3) (by decide) (by decide) hc
  have r4 := REFU_at hRE (k := 4) (by decide) (by decide) hc
  have r5 := REFU_at hRE (k := 5) (by decide) (by decide) hc
  have r6 := REFU_at hRE (k := 6) (by decide) (by decide) hc
  have r7 := REFU_at hRE (k := 7) (by decide) (by decide) hc
  have r8 := REFU_at hRE (k := 8) (by decide) (by decide) hc
  obtain ⟨t1, t2, t3, t4, t5, t6⟩ := hTH
  obtain ⟨p1, p2, p3, p4, p5, p6⟩ := hPE
  refine R_s (P := True) (f' := (2, [some (vR 1), some (vI d), some (vI p), some (vI g), none, none, none, none, none, none], [vI d, vR 1], LAY (shA A) (shF F), 0, 0)) hc80 2 rfl trivial ?_
  refine R_cv hc80 rfl rfl ?_ (fun r G h => h)
  refine R_s (P := True) (f' := (2, [some (vR 1), some (vI d)], [vI d, vR 1], LAY (shA A) (shF F), 0, 0)) hc99 2 rfl trivial ?_
  refine R_cv hc99 rfl rfl ?_ (fun r G h => h)
  refine R_s (P := True) (f' := (1, [some (vR 1), some (vI d)], [vI d], LAY (shA A) (shF F), 0, 0)) hc98 1 rfl trivial ?_
  refine R_if (t := 16) hc98 rfl rfl (fun (z : d < 0) => absurd z (by omega)) (fun (_ : ¬ (d < 0)) => ?_)
  refine R_s (P := True) (f' := (9, [some (vR 1), some (vI d)], [vI (F 0), vI d], LAY (shA A) (shF F), 0, 0)) hc98 3 rfl trivial ?_
  refine R_ic (t := 16) hc98 rfl rfl (fun (_ : F 0 ≤ d) => ?_) (fun (z : ¬ (F 0 ≤ d)) => absurd (show F 0 ≤ d by omega) z)
  refine R_s (P := True) (f' := (17, [some (vR 1), some (vI d)], [vI 0], LAY (shA A) (shF F), 0, 0)) hc98 1 rfl trivial ?_
  refine R_retz hc98 rfl rfl (Or.inl rfl) ?_
  refine R_s (f' := (5, [some (vR 1), some (vI d)], [vI 0], LAY (shA A) (shF F), 0, 0)) hc99 0 rfl trivial ?_
  refine R_if (t := 17) hc99 rfl rfl (fun (_ : 0 = 0) => ?_) (fun (z : ¬ (0 = 0)) => absurd (by decide) z)
  refine R_s (P := True) (f' := (18, [some (vR 1), some (vI d)], [vN], LAY (shA A) (shF F), 0, 0)) hc99 1 rfl trivial ?_
  refine R_reta hc99 rfl rfl ?_
  refine R_s (f' := (5, [some (vR 1), some (vI d), some (vI p), some (vI g), none, none, none, none, none, none], [vN], LAY (shA A) (shF F), 0, 0)) hc80 0 rfl trivial ?_
  refine R_s (P := True) (f' := (26, [some (vR 1), some (vI d), some (vI p), some (vI g), some (vN), none, none, none, none, none], [vI (-3), vR 1], LAY (shA A) (shF F), 0, 0)) hc80 5 rfl trivial ?_
  refine R_cv hc80 rfl rfl ?_ (fun r G h => h)
  refine R_s (P := True) (f' := (3, [some (vR 1), some (vI (-3))], [vI (-2), vI (-3)], LAY (shA A) (shF F), 0, 0)) hc93 2 rfl trivial ?_
  refine R_ic (t := 23) hc93 rfl rfl (fun (z : (-2) < (-3)) => absurd z (by decide)) (fun (_ : ¬ ((-2) < (-3))) => ?_)
  refine R_s (P := True) (f' := (9, [some (vR 1), some (vI (-3))], [vI (-8), vI (-3)], LAY (shA A) (shF F), 0, 0)) hc93 2 rfl trivial ?_
  refine R_ic (t := 23) hc93 rfl rfl (fun (z : (-3) < (-8)) => absurd z (by decide)) (fun (_ : ¬ ((-3) < (-8))) => ?_)
  refine R_s (P := inI 3 ∧ (0 ≤ 3 ∧ 3 < ((A 87).length : Int)) ∧ inI ((rd (A 87) 3) + 1) ∧ (0 ≤ 3 ∧ 3 < ((A 87).length : Int)) ∧ True) (f' := (24, [some (vR 1), some (vI (-3))], [vI (-3)], LAY (u (shA A) 87 (wr (A 87) 3 ((rd (A 87) 3) + 1))) (shF F), 0, 0)) hc93 10 rfl ⟨⟨by omega, by omega⟩, ⟨by omega, by omega⟩, ⟨by omega, by omega⟩, ⟨by omega, by omega⟩, trivial⟩ ?_
  refine R_reti hc93 rfl rfl ?_
  refine R_s (f' := (29, [some (vR 1), some (vI d), some (vI p), some (vI g), some (vN), none, none, none, none, none], [vI (-3)], LAY (u (shA A) 87 (wr (A 87) 3 ((rd (A 87) 3) + 1))) (shF F), 0, 0)) hc80 0 rfl trivial ?_
  refine R_reti hc80 rfl rfl ⟨⟨_, rfl⟩, ⟨_, _, rfl, rfl⟩, ?_⟩
  refine R_s (P := True) (f' := (2, [some (vR 88), some (vI d), some (vI p), some (vI g), none, none, none, none, none, none], [vI d, vR 88], LAY (u (shA A) 87 (wr (A 87) 3 ((rd (A 87) 3) + 1))) (shF F), 0, 0)) hc154 2 rfl trivial ?_
  refine R_cv hc154 rfl rfl ?_ (fun r G h => h)
  refine R_s (P := inI ((F 0) - 1) ∧ True) (f' := (8, [some (vR 88), some (vI d)], [vI ((F 0) - 1), vI 0, vI d], LAY (u (shA A) 87 (wr (A 87) 3 ((rd (A 87) 3) + 1))) (shF F), 0, 0)) hc108 6 rfl ⟨⟨by omega, by omega⟩, trivial⟩ ?_
  refine R_cs hc108 rfl rfl ?_ (fun r G h => h)
  refine R_s (P := True) (f' := (2, [some (vI d), some (vI 0), some (vI ((F 0) - 1))], [vI 0, vI d], LAY (u (shA A) 87 (wr (A 87) 3 ((rd (A 87) 3) + 1))) (shF F), 0, 0)) hc104 2 rfl trivial ?_
  refine R_ic (t := 14) hc104 rfl rfl (fun (z : d < 0) => absurd z (by omega)) (fun (_ : ¬ (d < 0)) => ?_)
  refine R_s (P := True) (f' := (7, [some (vI d), some (vI 0), some (vI ((F 0) - 1))], [vI ((F 0) - 1), vI d], LAY (u (shA A) 87 (wr (A 87) 3 ((rd (A 87) 3) + 1))) (shF F), 0, 0)) hc104 2 rfl trivial ?_
  refine R_ic (t := 14) hc104 rfl rfl (fun (_ : (F 0) - 1 < d) => ?_) (fun (z : ¬ ((F 0) - 1 < d)) => absurd (show (F 0) - 1 < d by omega) z)
  refine R_s (P := True) (f' := (15, [some (vI d), some (vI 0), some (vI ((F 0) - 1))], [vI 0], LAY (u (shA A) 87 (wr (A 87) 3 ((rd (A 87) 3) + 1))) (shF F), 0, 0)) hc104 1 rfl trivial ?_
  refine R_retz hc104 rfl rfl (Or.inl rfl) ?_
  refine R_s (f' := (11, [some (vR 88), some (vI d)], [vI 0], LAY (u (shA A) 87 (wr (A 87) 3 ((rd (A 87) 3) + 1))) (shF F), 0, 0)) hc108 0 rfl trivial ?_
  refine R_retz hc108 rfl rfl (Or.inl rfl) ?_
  refine R_s (f' := (5, [some (vR 88), some (vI d), some (vI p), some (vI g), none, none, none, none, none, none], [vI 0], LAY (u (shA A) 87 (wr (A 87) 3 ((rd (A 87) 3) + 1))) (shF F), 0, 0)) hc154 0 rfl trivial ?_
  refine R_if (t := 16) hc154 rfl rfl (fun (_ : 0 = 0) => ?_) (fun (z : ¬ (0 = 0)) => absurd (by decide) z)
  refine R_s (P := True) (f' := (19, [some (vR 88), some (vI d), some (vI p), some (vI g), none, none, none, none, none, none], [vI (-3), vR 88], LAY (u (shA A) 87 (wr (A 87) 3 ((rd (A 87) 3) + 1))) (shF F), 0, 0)) hc154 2 rfl trivial ?_
  refine R_cv hc154 rfl rfl ?_ (fun r G h => h)
  refine R_s (P := inI 3 ∧ (0 ≤ 3 ∧ 3 < ((A 87).length : Int)) ∧ inI ((rd (A 87) 3) + 1) ∧ (0 ≤ 3 ∧ 3 < ((A 87).length : Int)) ∧ True) (f' := (12, [some (vR 88), some (vI (-3))], [vI (-3)], LAY (u (u (shA A) 87 (wr (A 87) 3 ((rd (A 87) 3) + 1))) 89 (wr (A 87) 3 ((rd (A 87) 3) + 1))) (shF F), 0, 0)) hc105 10 rfl ⟨⟨by omega, by omega⟩, ⟨by omega, by omega⟩, ⟨by omega, by omega⟩, ⟨by omega, by omega⟩, trivial⟩ ?_
  refine R_reti hc105 rfl rfl ?_
  refine R_s (f' := (22, [some (vR 88), some (vI d), some (vI p), some (vI g), none, none, none, none, none, none], [vI (-3)], LAY (u (u (shA A) 87 (wr (A 87) 3 ((rd (A 87) 3) + 1))) 89 (wr (A 87) 3 ((rd (A 87) 3) + 1))) (shF F), 0, 0)) hc154 0 rfl trivial ?_
  refine R_reti hc154 rfl rfl ?_
  first
    | (exfalso; omega; done)
    | exact ⟨rfl, (u A 87 (wr (A 87) 3 ((rd (A 87) 3) + 1))), F, rfl, rfl, REL_ref hR0 (by decide) (by decide)⟩

theorem op_bound_0 {c : Int} {A : Nat → List Int} {F : Nat → Int} (hR : REL c A F) (hc : c < 512) (p g : Int) (i_p : inI p) (i_g : inI g) (hd : (0 : Int) < F 0) (hx : g = 0 ∨ g = 1) : R 80 (0, L0 80 [vR 1, vI 0, vI p, vI g], [], LAY (shA A) (shF F), 0, 0) (fun r G => (∃ x, r = some (vI x)) ∧ (∃ (A1 : Nat → List Int) (F1 : Nat → Int), G = LAY A1 F1 ∧ A1 0 = A 0) ∧ R 154 (0, L0 154 [vR 88, vI 0, vI p, vI g], [], G, 0, 0) (fun r2 G2 => r2 = r ∧ ∃ (A' : Nat → List Int) (F' : Nat → Int), G2 = LAY (shA A') (shF F') ∧ A' 0 = A 0 ∧ REL (c + 1) A' F')) := by
  have hR0 := hR
  obtain ⟨hL, hPE, hTH, hTP, hDE, hLE, hNO, hAC, hRO, hRE⟩ := hR
  have j_p := i_p
  unfold inI at j_p
  have j_g := i_g
  unfold inI at j_g
  have h87 : (A 87).length = 9 := hL 87 (by decide)
  have h99 : (A 99).length = 6 := hL 99 (by decide)
  have r2 := REFU_at hRE (k := 2) (by decide) (by decide) hc
  have r3 := REFU_at hRE (k := 3) (by decide) (by decide) hc
  have r4 := REFU_at hRE (k := 4) (by decide) (by decide) hc
  have r5 := REFU_at hRE (k := 5) (by decide) (by decide) hc
  have r6 := REFU_at hRE (k := 6) (by decide) (by decide) hc
  have r7 := REFU_at hRE (k := 7) (by decide) (by decide) hc
  have r8 := REFU_at hRE (k := 8) (by decide) (by decide) hc
  obtain ⟨t1, t2, t3, t4, t5, t6⟩ := hTH
  obtain ⟨p1, p2, p3, p4, p5, p6⟩ := hPE
  have hD := D_at0 hR0 hd
  have he1 := hD.1.1
  have he2 := hD.1.2.1
  have hme : rd (A 99) 0 = F 8 := by
    have := hD.2.2.2.2.1
    omega
  obtain ⟨so, te, tp, mg, pm, lo, hS⟩ := SPL_ex A F (N_al A F) (N_Q A 21) (F 8).toNat (N_Y A F 0)
  have hk5 : rk (F 2) (A 4) (A 6) (F 3).toNat ≤ 5 := Nat.le_trans (rk_ck (F 2) (A 4) (A 6) (F 3).toNat) (ck5 hR0)
  have h32 := pow_le5 hk5
  refine R_s (P := True) (f' := (2, [some (vR 1), some (vI 0), some (vI p), some (vI g), none, none, none, none, none, none], [vI 0, vR 1], LAY (shA A) (shF F), 0, 0)) hc80 2 rfl trivial ?_
  refine R_cv hc80 rfl rfl ?_ (fun r G h => h)
  refine R_s (P := True) (f' := (2, [some (vR 1), some (vI 0)], [vI 0, vR 1], LAY (shA A) (shF F), 0, 0)) hc99 2 rfl trivial ?_
  refine R_cv hc99 rfl rfl ?_ (fun r G h => h)
  refine R_s (P := True) (f' := (1, [some (vR 1), some (vI 0)], [vI 0], LAY (shA A) (shF F), 0, 0)) hc98 1 rfl trivial ?_
  refine R_if (t := 16) hc98 rfl rfl (fun (z : 0 < 0) => absurd z (by decide)) (fun (_ : ¬ (0 < 0)) => ?_)
  refine R_s (P := True) (f' := (9, [some (vR 1), some (vI 0)], [vI (F 0), vI 0], LAY (shA A) (shF F), 0, 0)) hc98 3 rfl trivial ?_
  refine R_ic (t := 16) hc98 rfl rfl (fun (z : F 0 ≤ 0) => absurd z (by omega)) (fun (_ : ¬ (F 0 ≤ 0)) => ?_)
  refine R_s (P := True) (f' := (17, [some (vR 1), some (vI 0)], [vI 1], LAY (shA A) (shF F), 0, 0)) hc98 2 rfl trivial ?_
  refine R_retz hc98 rfl rfl (Or.inr rfl) ?_
  refine R_s (f' := (5, [some (vR 1), some (vI 0)], [vI 1], LAY (shA A) (shF F), 0, 0)) hc99 0 rfl trivial ?_
  refine R_if (t := 17) hc99 rfl rfl (fun (z : 1 = 0) => absurd z (by decide)) (fun (_ : ¬ (1 = 0)) => ?_)
  refine R_s (P := (0 ≤ (0 : Int) ∧ (0 : Int) < (([some 20, some 29, some 38, some 47, some 56, some 65] : List (Option Nat)).length : Int)) ∧ True) (f' := (18, [some (vR 1), some (vI 0)], [vR 20], LAY (shA A) (shF F), 0, 0)) hc99 5 rfl ⟨(by decide), trivial⟩ ?_
  refine R_reta hc99 rfl rfl ?_
  refine R_s (f' := (5, [some (vR 1), some (vI 0), some (vI p), some (vI g), none, none, none, none, none, none], [vR 20], LAY (shA A) (shF F), 0, 0)) hc80 0 rfl trivial ?_
  refine R_s (P := True) (f' := (17, [some (vR 1), some (vI 0), some (vI p), some (vI g), some (vR 20), none, none, none, none, none], [vI p, vR 2], LAY (shA A) (shF F), 0, 0)) hc80 6 rfl trivial ?_
  refine R_cv hc80 rfl rfl ?_ (fun r G h => h)
  refine R_s (P := True) (f' := (1, [some (vR 2), some (vI p)], [vI p], LAY (shA A) (shF F), 0, 0)) hc5 1 rfl trivial ?_
  refine R_if (t := 16) hc5 rfl rfl (fun (c4 : p < 0) => ?_) (fun (c4 : ¬ (p < 0)) => ?_)
  · refine R_s (P := True) (f' := (17, [some (vR 2), some (vI p)], [vI 0], LAY (shA A) (shF F), 0, 0)) hc5 1 rfl trivial ?_
    refine R_retz hc5 rfl rfl (Or.inl rfl) ?_
    refine R_s (f' := (20, [some (vR 1), some (vI 0), some (vI p), some (vI g), some (vR 20), none, none, none, none, none], [vI 0], LAY (shA A) (shF F), 0, 0)) hc80 0 rfl trivial ?_
    refine R_if (t := 30) hc80 rfl rfl (fun (z : ¬ 0 = 0) => absurd z (by decide)) (fun (_ : ¬ (¬ 0 = 0)) => ?_)
    refine R_s (P := True) (f' := (26, [some (vR 1), some (vI 0), some (vI p), some (vI g), some (vR 20), none, none, none, none, none], [vI (-3), vR 1], LAY (shA A) (shF F), 0, 0)) hc80 2 rfl trivial ?_
    refine R_cv hc80 rfl rfl ?_ (fun r G h => h)
    refine R_s (P := True) (f' := (3, [some (vR 1), some (vI (-3))], [vI (-2), vI (-3)], LAY (shA A) (shF F), 0, 0)) hc93 2 rfl trivial ?_
    refine R_ic (t := 23) hc93 rfl rfl (fun (z : (-2) < (-3)) => absurd z (by decide)) (fun (_ : ¬ ((-2) < (-3))) => ?_)
    refine R_s (P := True) (f' := (9, [some (vR 1), some (vI (-3))], [vI (-8), vI (-3)], LAY (shA A) (shF F), 0, 0)) hc93 2 rfl trivial ?_
    refine R_ic (t := 23) hc93 rfl rfl (fun (z : (-3) < (-8)) => absurd z (by decide)) (fun (_ : ¬ ((-3) < (-8))) => ?_)
    refine R_s (P := inI 3 ∧ (0 ≤ 3 ∧ 3 < ((A 87).length : Int)) ∧ inI ((rd (A 87) 3) + 1) ∧ (0 ≤ 3 ∧ 3 < ((A 87).length : Int)) ∧ True) (f' := (24, [some (vR 1), some (vI (-3))], [vI (-3)], LAY (u (shA A) 87 (wr (A 87) 3 ((rd (A 87) 3) + 1))) (shF F), 0, 0)) hc93 10 rfl ⟨⟨by omega, by omega⟩, ⟨by omega, by omega⟩, ⟨by omega, by omega⟩, ⟨by omega, by omega⟩, trivial⟩ ?_
    refine R_reti hc93 rfl rfl ?_
    refine R_s (f' := (29, [some (vR 1), some (vI 0), some (vI p), some (vI g), some (vR 20), none, none, none, none, none], [vI (-3)], LAY (u (shA A) 87 (wr (A 87) 3 ((rd (A 87) 3) + 1))) (shF F), 0, 0)) hc80 0 rfl trivial ?_
    refine R_reti hc80 rfl rfl ⟨⟨_, rfl⟩, ⟨_, _, rfl, rfl⟩, ?_⟩
    refine R_s (P := True) (f' := (2, [some (vR 88), some (vI 0), some (vI p), some (vI g), none, none, none, none, none, none], [vI 0, vR 88], LAY (u (shA A) 87 (wr (A 87) 3 ((rd (A 87) 3) + 1))) (shF F), 0, 0)) hc154 2 rfl trivial ?_
    refine R_cv hc154 rfl rfl ?_ (fun r G h => h)
    refine R_s (P := inI ((F 0) - 1) ∧ True) (f' := (8, [some (vR 88), some (vI 0)], [vI ((F 0) - 1), vI 0, vI 0], LAY (u (shA A) 87 (wr (A 87) 3 ((rd (A 87) 3) + 1))) (shF F), 0, 0)) hc108 6 rfl ⟨⟨by omega, by omega⟩, trivial⟩ ?_
    refine R_cs hc108 rfl rfl ?_ (fun r G h => h)
    refine R_s (P := True) (f' := (2, [some (vI 0), some (vI 0), some (vI ((F 0) - 1))], [vI 0, vI 0], LAY (u (shA A) 87 (wr (A 87) 3 ((rd (A 87) 3) + 1))) (shF F), 0, 0)) hc104 2 rfl trivial ?_
    refine R_ic (t := 14) hc104 rfl rfl (fun (z : 0 < 0) => absurd z (by decide)) (fun (_ : ¬ (0 < 0)) => ?_)
    refine R_s (P := True) (f' := (7, [some (vI 0), some (vI 0), some (vI ((F 0) - 1))], [vI ((F 0) - 1), vI 0], LAY (u (shA A) 87 (wr (A 87) 3 ((rd (A 87) 3) + 1))) (shF F), 0, 0)) hc104 2 rfl trivial ?_
    refine R_ic (t := 14) hc104 rfl rfl (fun (z : (F 0) - 1 < 0) => absurd z (by omega)) (fun (_ : ¬ ((F 0) - 1 < 0)) => ?_)
    refine R_s (P := True) (f' := (15, [some (vI 0), some (vI 0), some (vI ((F 0) - 1))], [vI 1], LAY (u (shA A) 87 (wr (A 87) 3 ((rd (A 87) 3) + 1))) (shF F), 0, 0)) hc104 2 rfl trivial ?_
    refine R_retz hc104 rfl rfl (Or.inr rfl) ?_
    refine R_s (f' := (11, [some (vR 88), some (vI 0)], [vI 1], LAY (u (shA A) 87 (wr (A 87) 3 ((rd (A 87) 3) + 1))) (shF F), 0, 0)) hc108 0 rfl trivial ?_
    refine R_retz hc108 rfl rfl (Or.inr rfl) ?_
    refine R_s (f' := (5, [some (vR 88), some (vI 0), some (vI p), some (vI g), none, none, none, none, none, none], [vI 1], LAY (u (shA A) 87 (wr (A 87) 3 ((rd (A 87) 3) + 1))) (shF F), 0, 0)) hc154 0 rfl trivial ?_
    refine R_if (t := 16) hc154 rfl rfl (fun (z : 1 = 0) => absurd z (by decide)) (fun (_ : ¬ (1 = 0)) => ?_)
    refine R_s (P := True) (f' := (10, [some (vR 88), some (vI 0), some (vI p), some (vI g), none, none, none, none, none, none], [vI p, vR 88], LAY (u (shA A) 87 (wr (A 87) 3 ((rd (A 87) 3) + 1))) (shF F), 0, 0)) hc154 2 rfl trivial ?_
    refine R_cv hc154 rfl rfl ?_ (fun r G h => h)
    refine R_s (P := inI ((F 3) - 1) ∧ True) (f' := (8, [some (vR 88), some (vI p)], [vI ((F 3) - 1), vI 0, vI p], LAY (u (shA A) 87 (wr (A 87) 3 ((rd (A 87) 3) + 1))) (shF F), 0, 0)) hc106 6 rfl ⟨⟨by omega, by omega⟩, trivial⟩ ?_
    refine R_cs hc106 rfl rfl ?_ (fun r G h => h)
    refine R_s (P := True) (f' := (2, [some (vI p), some (vI 0), some (vI ((F 3) - 1))], [vI 0, vI p], LAY (u (shA A) 87 (wr (A 87) 3 ((rd (A 87) 3) + 1))) (shF F), 0, 0)) hc104 2 rfl trivial ?_
    refine R_ic (t := 14) hc104 rfl rfl (fun (_ : p < 0) => ?_) (fun (z : ¬ (p < 0)) => absurd (show p < 0 by omega) z)
    refine R_s (P := True) (f' := (15, [some (vI p), some (vI 0), some (vI ((F 3) - 1))], [vI 0], LAY (u (shA A) 87 (wr (A 87) 3 ((rd (A 87) 3) + 1))) (shF F), 0, 0)) hc104 1 rfl trivial ?_
    refine R_retz hc104 rfl rfl (Or.inl rfl) ?_
    refine R_s (f' := (11, [some (vR 88), some (vI p)], [vI 0], LAY (u (shA A) 87 (wr (A 87) 3 ((rd (A 87) 3) + 1))) (shF F), 0, 0)) hc106 0 rfl trivial ?_
    refine R_retz hc106 rfl rfl (Or.inl rfl) ?_
    refine R_s (f' := (13, [some (vR 88), some (vI 0), some (vI p), some (vI g), none, none, none, none, none, none], [vI 0], LAY (u (shA A) 87 (wr (A 87) 3 ((rd (A 87) 3) + 1))) (shF F), 0, 0)) hc154 0 rfl trivial ?_
    refine R_if (t := 23) hc154 rfl rfl (fun (z : ¬ 0 = 0) => absurd z (by decide)) (fun (_ : ¬ (¬ 0 = 0)) => ?_)
    refine R_s (P := True) (f' := (19, [some (vR 88), some (vI 0), some (vI p), some (vI g), none, none, none, none, none, none], [vI (-3), vR 88], LAY (u (shA A) 87 (wr (A 87) 3 ((rd (A 87) 3) + 1))) (shF F), 0, 0)) hc154 2 rfl trivial ?_
    refine R_cv hc154 rfl rfl ?_ (fun r G h => h)
    refine R_s (P := inI 3 ∧ (0 ≤ 3 ∧ 3 < ((A 87).length : Int)) ∧ inI ((rd (A 87) 3) + 1) ∧ (0 ≤ 3 ∧ 3 < ((A 87).length : Int)) ∧ True) (f' := (12, [some (vR 88), some (vI (-3))], [vI (-3)], LAY (u (u (shA A) 87 (wr (A 87) 3 ((rd (A 87) 3) + 1))) 89 (wr (A 87) 3 ((rd (A 87) 3) + 1))) (shF F), 0, 0)) hc105 10 rfl ⟨⟨by omega, by omega⟩, ⟨by omega, by omega⟩, ⟨by omega, by omega⟩, ⟨by omega, by omega⟩, trivial⟩ ?_
    refine R_reti hc105 rfl rfl ?_
    refine R_s (f' := (22, [some (vR 88), some (vI 0), some (vI p), some (vI g), none, none, none, none, none, none], [vI (-3)], LAY (u (u (shA A) 87 (wr (A 87) 3 ((rd (A 87) 3) + 1))) 89 (wr (A 87) 3 ((rd (A 87) 3) + 1))) (shF F), 0, 0)) hc154 0 rfl trivial ?_
    refine R_reti hc154 rfl rfl ?_
    first
      | (exfalso; omega; done)
      | exact ⟨rfl, (u A 87 (wr (A 87) 3 ((rd (A 87) 3) + 1))), F, rfl, rfl, REL_ref hR0 (by decide) (by decide)⟩
  · refine R_s (P := True) (f' := (9, [some (vR 2), some (vI p)], [vI (F 3), vI p], LAY (shA A) (shF F), 0, 0)) hc5 3 rfl trivial ?_
    refine R_ic (t := 16) hc5 rfl rfl (fun (c5 : F 3 ≤ p) => ?_) (fun (c5 : ¬ (F 3 ≤ p)) => ?_)
    · refine R_s (P := True) (f' := (17, [some (vR 2), some (vI p)], [vI 0], LAY (shA A) (shF F), 0, 0)) hc5 1 rfl trivial ?_
      refine R_retz hc5 rfl rfl (Or.inl rfl) ?_
      refine R_s (f' := (20, [some (vR 1), some (vI 0), some (vI p), some (vI g), some (vR 20), none, none, none, none, none], [vI 0], LAY (shA A) (shF F), 0, 0)) hc80 0 rfl trivial ?_
      refine R_if (t := 30) hc80 rfl rfl (fun (z : ¬ 0 = 0) => absurd z (by decide)) (fun (_ : ¬ (¬ 0 = 0)) => ?_)
      refine R_s (P := True) (f' := (26, [some (vR 1), some (vI 0), some (vI p), some (vI g), some (vR 20), none, none, none, none, none], [vI (-3), vR 1], LAY (shA A) (shF F), 0, 0)) hc80 2 rfl trivial ?_
      refine R_cv hc80 rfl rfl ?_ (fun r G h => h)
      refine R_s (P := True) (f' := (3, [some (vR 1), some (vI (-3))], [vI (-2), vI (-3)], LAY (shA A) (shF F), 0, 0)) hc93 2 rfl trivial ?_
      refine R_ic (t := 23) hc93 rfl rfl (fun (z : (-2) < (-3)) => absurd z (by decide)) (fun (_ : ¬ ((-2) < (-3))) => ?_)
      refine R_s (P := True) (f' := (9, [some (vR 1), some (vI (-3))], [vI (-8), vI (-3)], LAY (shA A) (shF F), 0, 0)) hc93 2 rfl trivial ?_
      refine R_ic (t := 23) hc93 rfl rfl (fun (z : (-3) < (-8)) => absurd z (by decide)) (fun (_ : ¬ ((-3) < (-8))) => ?_)
      refine R_s (P := inI 3 ∧ (0 ≤ 3 ∧ 3 < ((A 87).length : Int)) ∧ inI ((rd (A 87) 3) + 1) ∧ (0 ≤ 3 ∧ 3 < ((A 87).length : Int)) ∧ True) (f' := (24, [some (vR 1), some (vI (-3))], [vI (-3)], LAY (u (shA A) 87 (wr (A 87) 3 ((rd (A 87) 3) + 1))) (shF F), 0, 0)) hc93 10 rfl ⟨⟨by omega, by omega⟩, ⟨by omega, by omega⟩, ⟨by omega, by omega⟩, ⟨by omega, by omega⟩, trivial⟩ ?_
      refine R_reti hc93 rfl rfl ?_
      refine R_s (f' := (29, [some (vR 1), some (vI 0), some (vI p), some (vI g), some (vR 20), none, none, none, none, none], [vI (-3)], LAY (u (shA A) 87 (wr (A 87) 3 ((rd (A 87) 3) + 1))) (shF F), 0, 0)) hc80 0 rfl trivial ?_
      refine R_reti hc80 rfl rfl ⟨⟨_, rfl⟩, ⟨_, _, rfl, rfl⟩, ?_⟩
      refine R_s (P := True) (f' := (2, [some (vR 88), some (vI 0), some (vI p), some (vI g), none, none, none, none, none, none], [vI 0, vR 88], LAY (u (shA A) 87 (wr (A 87) 3 ((rd (A 87) 3) + 1))) (shF F), 0, 0)) hc154 2 rfl trivial ?_
      refine R_cv hc154 rfl rfl ?_ (fun r G h => h)
      refine R_s (P := inI ((F 0) - 1) ∧ True) (f' := (8, [some (vR 88), some (vI 0)], [vI ((F 0) - 1), vI 0, vI 0], LAY (u (shA A) 87 (wr (A 87) 3 ((rd (A 87) 3) + 1))) (shF F), 0, 0)) hc108 6 rfl ⟨⟨by omega, by omega⟩, trivial⟩ ?_
      refine R_cs hc108 rfl rfl ?_ (fun r G h => h)
      refine R_s (P := True) (f' := (2, [some (vI 0), some (vI 0), some (vI ((F 0) - 1))], [vI 0, vI 0], LAY (u (shA A) 87 (wr (A 87) 3 ((rd (A 87) 3) + 1))) (shF F), 0, 0)) hc104 2 rfl trivial ?_
      refine R_ic (t := 14) hc104 rfl rfl (fun (z : 0 < 0) => absurd z (by decide)) (fun (_ : ¬ (0 < 0)) => ?_)
      refine R_s (P := True) (f' := (7, [some (vI 0), some (vI 0), some (vI ((F 0) - 1))], [vI ((F 0) - 1), vI 0], LAY (u (shA A) 87 (wr (A 87) 3 ((rd (A 87) 3) + 1))) (shF F), 0, 0)) hc104 2 rfl trivial ?_
      refine R_ic (t := 14) hc104 rfl rfl (fun (z : (F 0) - 1 < 0) => absurd z (by omega)) (fun (_ : ¬ ((F 0) - 1 < 0)) => ?_)
      refine R_s (P := True) (f' := (15, [some (vI 0), some (vI 0), some (vI ((F 0) - 1))], [vI 1], LAY (u (shA A) 87 (wr (A 87) 3 ((rd (A 87) 3) + 1))) (shF F), 0, 0)) hc104 2 rfl trivial ?_
      refine R_retz hc104 rfl rfl (Or.inr rfl) ?_
      refine R_s (f' := (11, [some (vR 88), some (vI 0)], [vI 1], LAY (u (shA A) 87 (wr (A 87) 3 ((rd (A 87) 3) + 1))) (shF F), 0, 0)) hc108 0 rfl trivial ?_
      refine R_retz hc108 rfl rfl (Or.inr rfl) ?_
      refine R_s (f' := (5, [some (vR 88), some (vI 0), some (vI p), some (vI g), none, none, none, none, none, none], [vI 1], LAY (u (shA A) 87 (wr (A 87) 3 ((rd (A 87) 3) + 1))) (shF F), 0, 0)) hc154 0 rfl trivial ?_
      refine R_if (t := 16) hc154 rfl rfl (fun (z : 1 = 0) => absurd z (by decide)) (fun (_ : ¬ (1 = 0)) => ?_)
      refine R_s (P := True) (f' := (10, [some (vR 88), some (vI 0), some (vI p), some (vI g), none, none, none, none, none, none], [vI p, vR 88], LAY (u (shA A) 87 (wr (A 87) 3 ((rd (A 87) 3) + 1))) (shF F), 0, 0)) hc154 2 rfl trivial ?_
      refine R_cv hc154 rfl rfl ?_ (fun r G h => h)
      refine R_s (P := inI ((F 3) - 1) ∧ True) (f' := (8, [some (vR 88), some (vI p)], [vI ((F 3) - 1), vI 0, vI p], LAY (u (shA A) 87 (wr (A 87) 3 ((rd (A 87) 3) + 1))) (shF F), 0, 0)) hc106 6 rfl ⟨⟨by omega, by omega⟩, trivial⟩ ?_
      refine R_cs hc106 rfl rfl ?_ (fun r G h => h)
      refine R_s (P := True) (f' := (2, [some (vI p), some (vI 0), some (vI ((F 3) - 1))], [vI 0, vI p], LAY (u (shA A) 87 (wr (A 87) 3 ((rd (A 87) 3) + 1))) (shF F), 0, 0)) hc104 2 rfl trivial ?_
      refine R_ic (t := 14) hc104 rfl rfl (fun (z : p < 0) => absurd z (by omega)) (fun (_ : ¬ (p < 0)) => ?_)
      refine R_s (P := True) (f' := (7, [some (vI p), some (vI 0), some (vI ((F 3) - 1))], [vI ((F 3) - 1), vI p], LAY (u (shA A) 87 (wr (A 87) 3 ((rd (A 87) 3) + 1))) (shF F), 0, 0)) hc104 2 rfl trivial ?_
      refine R_ic (t := 14) hc104 rfl rfl (fun (_ : (F 3) - 1 < p) => ?_) (fun (z : ¬ ((F 3) - 1 < p)) => absurd (show (F 3) - 1 < p by omega) z)
      refine R_s (P := True) (f' := (15, [some (vI p), some (vI 0), some (vI ((F 3) - 1))], [vI 0], LAY (u (shA A) 87 (wr (A 87) 3 ((rd (A 87) 3) + 1))) (shF F), 0, 0)) hc104 1 rfl trivial ?_
      refine R_retz hc104 rfl rfl (Or.inl rfl) ?_
      refine R_s (f' := (11, [some (vR 88), some (vI p)], [vI 0], LAY (u (shA A) 87 (wr (A 87) 3 ((rd (A 87) 3) + 1))) (shF F), 0, 0)) hc106 0 rfl trivial ?_
      refine R_retz hc106 rfl rfl (Or.inl rfl) ?_
      refine R_s (f' := (13, [some (vR 88), some (vI 0), some (vI p), some (vI g), none, none, none, none, none, none], [vI 0], LAY (u (shA A) 87 (wr (A 87) 3 ((rd (A 87) 3) + 1))) (shF F), 0, 0)) hc154 0 rfl trivial ?_
      refine R_if (t := 23) hc154 rfl rfl (fun (z : ¬ 0 = 0) => absurd z (by decide)) (fun (_ : ¬ (¬ 0 = 0)) => ?_)
      refine R_s (P := True) (f' := (19, [some (vR 88), some (vI 0), some (vI p), some (vI g), none, none, none, none, none, none], [vI (-3), vR 88], LAY (u (shA A) 87 (wr (A 87) 3 ((rd (A 87) 3) + 1))) (shF F), 0, 0)) hc154 2 rfl trivial ?_
      refine R_cv hc154 rfl rfl ?_ (fun r G h => h)
      refine R_s (P := inI 3 ∧ (0 ≤ 3 ∧ 3 < ((A 87).length : Int)) ∧ inI ((rd (A 87) 3) + 1) ∧ (0 ≤ 3 ∧ 3 < ((A 87).length : Int)) ∧ True) (f' := (12, [some (vR 88), some (vI (-3))], [vI (-3)], LAY (u (u (shA A) 87 (wr (A 87) 3 ((rd (A 87) 3) + 1))) 89 (wr (A 87) 3 ((rd (A 87) 3) + 1))) (shF F), 0, 0)) hc105 10 rfl ⟨⟨by omega, by omega⟩, ⟨by omega, by omega⟩, ⟨by omega, by omega⟩, ⟨by omega, by omega⟩, trivial⟩ ?_
      refine R_reti hc105 rfl rfl ?_
      refine R_s (f' := (22, [some (vR 88), some (vI 0), some (vI p), some (vI g), none, none, none, none, none, none], [vI (-3)], LAY (u (u (shA A) 87 (wr (A 87) 3 ((rd (A 87) 3) + 1))) 89 (wr (A 87) 3 ((rd (A 87) 3) + 1))) (shF F), 0, 0)) hc154 0 rfl trivial ?_
      refine R_reti hc154 rfl rfl ?_
      first
        | (exfalso; omega; done)
        | exact ⟨rfl, (u A 87 (wr (A 87) 3 ((rd (A 87) 3) + 1))), F, rfl, rfl, REL_ref hR0 (by decide) (by decide)⟩
    · refine R_s (P := True) (f' := (17, [some (vR 2), some (vI p)], [vI 1], LAY (shA A) (shF F), 0, 0)) hc5 2 rfl trivial ?_
      refine R_retz hc5 rfl rfl (Or.inr rfl) ?_
      refine R_s (f' := (20, [some (vR 1), some (vI 0), some (vI p), some (vI g), some (vR 20), none, none, none, none, none], [vI 1], LAY (shA A) (shF F), 0, 0)) hc80 0 rfl trivial ?_
      refine R_if (t := 30) hc80 rfl rfl (fun (_ : ¬ 1 = 0) => ?_) (fun (z : ¬ (¬ 1 = 0)) => absurd (by decide) z)
      refine R_s (P := True) (f' := (35, [some (vR 1), some (vI 0), some (vI p), some (vI g), some (vR 20), none, none, none, none, none], [vI 0, vR 12], LAY (shA A) (shF F), 0, 0)) hc80 3 rfl trivial ?_
      refine R_cv hc80 rfl rfl (l_yieldC (A := (shA A)) (F := (shF F)) (LENS_sh hL) ⟨t1, t2⟩ 0 (by decide) (fun i hi => R_prod hR0 (d := 0) (by decide) i hi)) (fun r G9 hp9 => ?_)
      obtain ⟨e1, rfl⟩ := hp9
      have e2 : r = some (vI (N_Y A F 0)) := e1
      clear e1
      subst e2
      refine R_s (f' := (38, [some (vR 1), some (vI 0), some (vI p), some (vI g), some (vR 20), none, none, none, none, none], [vI (N_Y A F 0)], LAY (shA A) (shF F), 0, 0)) hc80 0 rfl trivial ?_
      refine R_s (P := True) (f' := (49, [some (vR 1), some (vI 0), some (vI p), some (vI g), some (vR 20), some (vI (N_Y A F 0)), none, none, none, none], [vI (F 2), vR 2, vI 1], LAY (shA A) (shF F), 0, 0)) hc80 6 rfl trivial ?_
      refine R_cv hc80 rfl rfl (l_doubtful (A := (shA A)) (F := (shF F)) (n := (F 3).toNat) (LENS_sh hL) (R_n hR0) (R_n30 hR0) (yr := F 2)) (fun r G9 hp9 => ?_)
      obtain ⟨rfl, rfl⟩ := hp9
      refine R_s (f' := (52, [some (vR 1), some (vI 0), some (vI p), some (vI g), some (vR 20), some (vI (N_Y A F 0)), none, none, none, none], [vI ((rk (F 2) (A 4) (A 6) (F 3).toNat : Nat) : Int), vI 1], LAY (shA A) (shF F), 0, 0)) hc80 0 rfl trivial ?_
      refine R_s (P := (0 ≤ ((rk (F 2) (A 4) (A 6) (F 3).toNat : Nat) : Int) ∧ ((rk (F 2) (A 4) (A 6) (F 3).toNat : Nat) : Int) < 31 ∧ 0 ≤ 1 ∧ 1 * 2 ^ (((rk (F 2) (A 4) (A 6) (F 3).toNat : Nat) : Int) : Int).toNat ≤ 2147483647) ∧ True) (f' := (61, [some (vR 1), some (vI 0), some (vI p), some (vI g), some (vR 20), some (vI (N_Y A F 0)), some (vI (1 * 2 ^ (((rk (F 2) (A 4) (A 6) (F 3).toNat : Nat) : Int) : Int).toNat)), some (vI 0), some (vI 0), none], [], LAY (shA A) (shF F), 0, 0)) hc80 6 rfl ⟨⟨by omega, by omega, by omega, by (rw [Int.toNat_natCast, Int.one_mul]; have z2 : ((2 ^ rk (F 2) (A 4) (A 6) (F 3).toNat : Nat) : Int) ≤ 32 := (by omega); push_cast at z2; omega)⟩, trivial⟩ ?_
      refine bound_C0 hR0 hd (p := p) (g := g) ⟨by omega, by omega⟩ rfl (by rw [Int.toNat_natCast, Int.one_mul]; push_cast; rfl) (fun b x v9 l8 l9 l10 l11 l75 l76 l77 l78 k8 k9 k10 k11 k75 k76 k77 k78 v14 v15 hB => ?_)
      refine R_s (P := True) (f' := (149, [some (vR 1), some (vI 0), some (vI p), some (vI g), some (vR 20), some (vI (N_Y A F 0)), some (vI (1 * 2 ^ (((rk (F 2) (A 4) (A 6) (F 3).toNat : Nat) : Int) : Int).toNat)), some (vI b), some (vI x), v9], [vI b], LAY (u (u (u (u (u (u (u (u (shA A) 8 l8) 9 l9) 10 l10) 11 l11) 75 l75) 76 l76) 77 l77) 78 l78) (u (u (shF F) 14 v14) 15 v15), 0, 0)) hc80 1 rfl trivial ?_
      refine R_reti hc80 rfl rfl ⟨⟨_, rfl⟩, ⟨_, _, rfl, rfl⟩, ?_⟩
      refine R_s (P := True) (f' := (2, [some (vR 88), some (vI 0), some (vI p), some (vI g), none, none, none, none, none, none], [vI 0, vR 88], LAY (u (u (u (u (u (u (u (u (shA A) 8 l8) 9 l9) 10 l10) 11 l11) 75 l75) 76 l76) 77 l77) 78 l78) (u (u (shF F) 14 v14) 15 v15), 0, 0)) hc154 2 rfl trivial ?_
      refine R_cv hc154 rfl rfl ?_ (fun r G h => h)
      refine R_s (P := inI ((F 0) - 1) ∧ True) (f' := (8, [some (vR 88), some (vI 0)], [vI ((F 0) - 1), vI 0, vI 0], LAY (u (u (u (u (u (u (u (u (shA A) 8 l8) 9 l9) 10 l10) 11 l11) 75 l75) 76 l76) 77 l77) 78 l78) (u (u (shF F) 14 v14) 15 v15), 0, 0)) hc108 6 rfl ⟨⟨by omega, by omega⟩, trivial⟩ ?_
      refine R_cs hc108 rfl rfl ?_ (fun r G h => h)
      refine R_s (P := True) (f' := (2, [some (vI 0), some (vI 0), some (vI ((F 0) - 1))], [vI 0, vI 0], LAY (u (u (u (u (u (u (u (u (shA A) 8 l8) 9 l9) 10 l10) 11 l11) 75 l75) 76 l76) 77 l77) 78 l78) (u (u (shF F) 14 v14) 15 v15), 0, 0)) hc104 2 rfl trivial ?_
      refine R_ic (t := 14) hc104 rfl rfl (fun (z : 0 < 0) => absurd z (by decide)) (fun (_ : ¬ (0 < 0)) => ?_)
      refine R_s (P := True) (f' := (7, [some (vI 0), some (vI 0), some (vI ((F 0) - 1))], [vI ((F 0) - 1), vI 0], LAY (u (u (u (u (u (u (u (u (shA A) 8 l8) 9 l9) 10 l10) 11 l11) 75 l75) 76 l76) 77 l77) 78 l78) (u (u (shF F) 14 v14) 15 v15), 0, 0)) hc104 2 rfl trivial ?_
      refine R_ic (t := 14) hc104 rfl rfl (fun (z : (F 0) - 1 < 0) => absurd z (by omega)) (fun (_ : ¬ ((F 0) - 1 < 0)) => ?_)
      refine R_s (P := True) (f' := (15, [some (vI 0), some (vI 0), some (vI ((F 0) - 1))], [vI 1], LAY (u (u (u (u (u (u (u (u (shA A) 8 l8) 9 l9) 10 l10) 11 l11) 75 l75) 76 l76) 77 l77) 78 l78) (u (u (shF F) 14 v14) 15 v15), 0, 0)) hc104 2 rfl trivial ?_
      refine R_retz hc104 rfl rfl (Or.inr rfl) ?_
      refine R_s (f' := (11, [some (vR 88), some (vI 0)], [vI 1], LAY (u (u (u (u (u (u (u (u (shA A) 8 l8) 9 l9) 10 l10) 11 l11) 75 l75) 76 l76) 77 l77) 78 l78) (u (u (shF F) 14 v14) 15 v15), 0, 0)) hc108 0 rfl trivial ?_
      refine R_retz hc108 rfl rfl (Or.inr rfl) ?_
      refine R_s (f' := (5, [some (vR 88), some (vI 0), some (vI p), some (vI g), none, none, none, none, none, none], [vI 1], LAY (u (u (u (u (u (u (u (u (shA A) 8 l8) 9 l9) 10 l10) 11 l11) 75 l75) 76 l76) 77 l77) 78 l78) (u (u (shF F) 14 v14) 15 v15), 0, 0)) hc154 0 rfl trivial ?_
      refine R_if (t := 16) hc154 rfl rfl (fun (z : 1 = 0) => absurd z (by decide)) (fun (_ : ¬ (1 = 0)) => ?_)
      refine R_s (P := True) (f' := (10, [some (vR 88), some (vI 0), some (vI p), some (vI g), none, none, none, none, none, none], [vI p, vR 88], LAY (u (u (u (u (u (u (u (u (shA A) 8 l8) 9 l9) 10 l10) 11 l11) 75 l75) 76 l76) 77 l77) 78 l78) (u (u (shF F) 14 v14) 15 v15), 0, 0)) hc154 2 rfl trivial ?_
      refine R_cv hc154 rfl rfl ?_ (fun r G h => h)
      refine R_s (P := inI ((F 3) - 1) ∧ True) (f' := (8, [some (vR 88), some (vI p)], [vI ((F 3) - 1), vI 0, vI p], LAY (u (u (u (u (u (u (u (u (shA A) 8 l8) 9 l9) 10 l10) 11 l11) 75 l75) 76 l76) 77 l77) 78 l78) (u (u (shF F) 14 v14) 15 v15), 0, 0)) hc106 6 rfl ⟨⟨by omega, by omega⟩, trivial⟩ ?_
      refine R_cs hc106 rfl rfl ?_ (fun r G h => h)
      refine R_s (P := True) (f' := (2, [some (vI p), some (vI 0), some (vI ((F 3) - 1))], [vI 0, vI p], LAY (u (u (u (u (u (u (u (u (shA A) 8 l8) 9 l9) 10 l10) 11 l11) 75 l75) 76 l76) 77 l77) 78 l78) (u (u (shF F) 14 v14) 15 v15), 0, 0)) hc104 2 rfl trivial ?_
      refine R_ic (t := 14) hc104 rfl rfl (fun (z : p < 0) => absurd z (by omega)) (fun (_ : ¬ (p < 0)) => ?_)
      refine R_s (P := True) (f' := (7, [some (vI p), some (vI 0), some (vI ((F 3) - 1))], [vI ((F 3) - 1), vI p], LAY (u (u (u (u (u (u (u (u (shA A) 8 l8) 9 l9) 10 l10) 11 l11) 75 l75) 76 l76) 77 l77) 78 l78) (u (u (shF F) 14 v14) 15 v15), 0, 0)) hc104 2 rfl trivial ?_
      refine R_ic (t := 14) hc104 rfl rfl (fun (z : (F 3) - 1 < p) => absurd z (by omega)) (fun (_ : ¬ ((F 3) - 1 < p)) => ?_)
      refine R_s (P := True) (f' := (15, [some (vI p), some (vI 0), some (vI ((F 3) - 1))], [vI 1], LAY (u (u (u (u (u (u (u (u (shA A) 8 l8) 9 l9) 10 l10) 11 l11) 75 l75) 76 l76) 77 l77) 78 l78) (u (u (shF F) 14 v14) 15 v15), 0, 0)) hc104 2 rfl trivial ?_
      refine R_retz hc104 rfl rfl (Or.inr rfl) ?_
      refine R_s (f' := (11, [some (vR 88), some (vI p)], [vI 1], LAY (u (u (u (u (u (u (u (u (shA A) 8 l8) 9 l9) 10 l10) 11 l11) 75 l75) 76 l76) 77 l77) 78 l78) (u (u (shF F) 14 v14) 15 v15), 0, 0)) hc106 0 rfl trivial ?_
      refine R_retz hc106 rfl rfl (Or.inr rfl) ?_
      refine R_s (f' := (13, [some (vR 88), some (vI 0), some (vI p), some (vI g), none, none, none, none, none, none], [vI 1], LAY (u (u (u (u (u (u (u (u (shA A) 8 l8) 9 l9) 10 l10) 11 l11) 75 l75) 76 l76) 77 l77) 78 l78) (u (u (shF F) 14 v14) 15 v15), 0, 0)) hc154 0 rfl trivial ?_
      refine R_if (t := 23) hc154 rfl rfl (fun (_ : ¬ 1 = 0) => ?_) (fun (z : ¬ (¬ 1 = 0)) => absurd (by decide) z)
      refine R_mono (bound_M hR0 (A0 := (u (u (u (u (u (u (u (u (shA A) 8 l8) 9 l9) 10 l10) 11 l11) 75 l75) 76 l76) 77 l77) 78 l78)) (F0 := (u (u (shF F) 14 v14) 15 v15)) rfl rfl rfl rfl rfl rfl rfl rfl rfl rfl rfl rfl rfl rfl (hL 109 (by decide)) (hL 104 (by decide)) (hL 105 (by decide)) (hL 110 (by decide)) (hL 111 (by decide)) (hL 108 (by decide)) (hL 107 (by decide)) hD.1 hD.2 rfl (p := p) (g := g) ⟨by omega, by omega⟩) (fun r8 G8 hp8 => ?_)
      obtain ⟨b2, l109, l104, l105, l110, l111, l108, l107, v28, v29, v30, v31, rfl, hB2, rfl, k109, k104, k105, k110, k111, k108, k107⟩ := hp8
      have e8 : b2 = b := BEST_eq hB hB2 (fun i _ => by
        obtain ⟨w1, h1, h2⟩ := way_CM (A := A) (F := F) i
        exact ⟨w1, h1, by unfold vW; rw [h2]⟩) (fun j _ => by
        obtain ⟨w1, h1, h2⟩ := way_MC (A := A) (F := F) j
        exact ⟨w1, h1, by unfold vW; rw [h2]⟩)
      first
        | (exfalso; omega; done)
        | exact ⟨(by rw [show b2 = b by omega]), (u (u (u (u (u (u (u (u (u (u (u (u (u (u (u A 8 l8) 9 l9) 10 l10) 11 l11) 75 l75) 76 l76) 77 l77) 78 l78) 109 l109) 104 l104) 105 l105) 110 l110) 111 l111) 108 l108) 107 l107), (u (u (u (u (u (u F 14 v14) 15 v15) 28 v28) 29 v29) 30 v30) 31 v31), rfl, rfl, ⟨(LENS_u (LENS_u (LENS_u (LENS_u (LENS_u (LENS_u (LENS_u (LENS_u (LENS_u (LENS_u (LENS_u (LENS_u (LENS_u (LENS_u (LENS_u hL (by show (l8).length = (A 8).length; rw [k8, hL 8 (by decide)]; rfl)) (by show (l9).length = (A 9).length; rw [k9, hL 9 (by decide)]; rfl)) (by show (l10).length = (A 10).length; rw [k10, hL 10 (by decide)]; rfl)) (by show (l11).length = (A 11).length; rw [k11, hL 11 (by decide)]; rfl)) (by show (l75).length = (A 75).length; rw [k75, hL 75 (by decide)]; rfl)) (by show (l76).length = (A 76).length; rw [k76, hL 76 (by decide)]; rfl)) (by show (l77).length = (A 77).length; rw [k77, hL 77 (by decide)]; rfl)) (by show (l78).length = (A 78).length; rw [k78, hL 78 (by decide)]; rfl)) (by show (l109).length = (A 109).length; rw [k109, hL 109 (by decide)]; rfl)) (by show (l104).length = (A 104).length; rw [k104, hL 104 (by decide)]; rfl)) (by show (l105).length = (A 105).length; rw [k105, hL 105 (by decide)]; rfl)) (by show (l110).length = (A 110).length; rw [k110, hL 110 (by decide)]; rfl)) (by show (l111).length = (A 111).length; rw [k111, hL 111 (by decide)]; rfl)) (by show (l108).length = (A 108).length; rw [k108, hL 108 (by decide)]; rfl)) (by show (l107).length = (A 107).length; rw [k107, hL 107 (by decide)]; rfl)), hR0.2.1, hR0.2.2.1, hR0.2.2.2.1, hR0.2.2.2.2.1, hR0.2.2.2.2.2.1, hR0.2.2.2.2.2.2.1, hR0.2.2.2.2.2.2.2.1, hR0.2.2.2.2.2.2.2.2.1, (REFU_c hR0.2.2.2.2.2.2.2.2.2)⟩⟩

theorem op_bound_1 {c : Int} {A : Nat → List Int} {F : Nat → Int} (hR : REL c A F) (hc : c < 512) (p g : Int) (i_p : inI p) (i_g : inI g) (hd : (1 : Int) < F 0) (hx : g = 0 ∨ g = 1) : R 80 (0, L0 80 [vR 1, vI 1, vI p, vI g], [], LAY (shA A) (shF F), 0, 0) (fun r G => (∃ x, r = some (vI x)) ∧ (∃ (A1 : Nat → List Int) (F1 : Nat → Int), G = LAY A1 F1 ∧ A1 0 = A 0) ∧ R 154 (0, L0 154 [vR 88, vI 1, vI p, vI g], [], G, 0, 0) (fun r2 G2 => r2 = r ∧ ∃ (A' : Nat → List Int) (F' : Nat → Int), G2 = LAY (shA A') (shF F') ∧ A' 0 = A 0 ∧ REL (c + 1) A' F')) := by
  have hR0 := hR
  obtain ⟨hL, hPE, hTH, hTP, hDE, hLE, hNO, hAC, hRO, hRE⟩ := hR
  have j_p := i_p
  unfold inI at j_p
  have j_g := i_g
  unfold inI at j_g
  have h87 : (A 87).length = 9 := hL 87 (by decide)
  have h99 : (A 99).length = 6 := hL 99 (by decide)
  have r2 := REFU_at hRE (k := 2) (by decide) (by decide) hc
  have r3 := REFU_at hRE (k := 3) (by decide) (by decide) hc
  have r4 := REFU_at hRE (k := 4) (by decide) (by decide) hc
  have r5 := REFU_at hRE (k := 5) (by decide) (by decide) hc
  have r6 := REFU_at hRE (k := 6) (by decide) (by decide) hc
  have r7 := REFU_at hRE (k := 7) (by decide) (by decide) hc
  have r8 := REFU_at hRE (k := 8) (by decide) (by decide) hc
  obtain ⟨t1, t2, t3, t4, t5, t6⟩ := hTH
  obtain ⟨p1, p2, p3, p4, p5, p6⟩ := hPE
  have hD := D_at1 hR0 hd
  have he1 := hD.1.1
  have he2 := hD.1.2.1
  have hme : rd (A 99) 1 = F 9 := by
    have := hD.2.2.2.2.1
    omega
  obtain ⟨so, te, tp, mg, pm, lo, hS⟩ := SPL_ex A F (N_al A F) (N_Q A 30) (F 9).toNat (N_Y A F 1)
  have hk5 : rk (F 2) (A 4) (A 6) (F 3).toNat ≤ 5 := Nat.le_trans (rk_ck (F 2) (A 4) (A 6) (F 3).toNat) (ck5 hR0)
  have h32 := pow_le5 hk5
  refine R_s (P := True) (f' := (2, [some (vR 1), some (vI 1), some (vI p), some (vI g), none, none, none, none, none, none], [vI 1, vR 1], LAY (shA A) (shF F), 0, 0)) hc80 2 rfl trivial ?_
  refine R_cv hc80 rfl rfl ?_ (fun r G h => h)
  refine R_s (P := True) (f' := (2, [some (vR 1), some (vI 1)], [vI 1, vR 1], LAY (shA A) (shF F), 0, 0)) hc99 2 rfl trivial ?_
  refine R_cv hc99 rfl rfl ?_ (fun r G h => h)
  refine R_s (P := True) (f' := (1, [some (vR 1), some (vI 1)], [vI 1], LAY (shA A) (shF F), 0, 0)) hc98 1 rfl trivial ?_
  refine R_if (t := 16) hc98 rfl rfl (fun (z : 1 < 0) => absurd z (by decide)) (fun (_ : ¬ (1 < 0)) => ?_)
  refine R_s (P := True) (f' := (9, [some (vR 1), some (vI 1)], [vI (F 0), vI 1], LAY (shA A) (shF F), 0, 0)) hc98 3 rfl trivial ?_
  refine R_ic (t := 16) hc98 rfl rfl (fun (z : F 0 ≤ 1) => absurd z (by omega)) (fun (_ : ¬ (F 0 ≤ 1)) => ?_)
  refine R_s (P := True) (f' := (17, [some (vR 1), some (vI 1)], [vI 1], LAY (shA A) (shF F), 0, 0)) hc98 2 rfl trivial ?_
  refine R_retz hc98 rfl rfl (Or.inr rfl) ?_
  refine R_s (f' := (5, [some (vR 1), some (vI 1)], [vI 1], LAY (shA A) (shF F), 0, 0)) hc99 0 rfl trivial ?_
  refine R_if (t := 17) hc99 rfl rfl (fun (z : 1 = 0) => absurd z (by decide)) (fun (_ : ¬ (1 = 0)) => ?_)
  refine R_s (P := (0 ≤ (1 : Int) ∧ (1 : Int) < (([some 20, some 29, some 38, some 47, some 56, some 65] : List (Option Nat)).length : Int)) ∧ True) (f' := (18, [some (vR 1), some (vI 1)], [vR 29], LAY (shA A) (shF F), 0, 0)) hc99 5 rfl ⟨(by decide), trivial⟩ ?_
  refine R_reta hc99 rfl rfl ?_
  refine R_s (f' := (5, [some (vR 1), some (vI 1), some (vI p), some (vI g), none, none, none, none, none, none], [vR 29], LAY (shA A) (shF F), 0, 0)) hc80 0 rfl trivial ?_
  refine R_s (P := True) (f' := (17, [some (vR 1), some (vI 1), some (vI p), some (vI g), some (vR 29), none, none, none, none, none], [vI p, vR 2], LAY (shA A) (shF F), 0, 0)) hc80 6 rfl trivial ?_
  refine R_cv hc80 rfl rfl ?_ (fun r G h => h)
  refine R_s (P := True) (f' := (1, [some (vR 2), some (vI p)], [vI p], LAY (shA A) (shF F), 0, 0)) hc5 1 rfl trivial ?_
  refine R_if (t := 16) hc5 rfl rfl (fun (c4 : p < 0) => ?_) (fun (c4 : ¬ (p < 0)) => ?_)
  · refine R_s (P := True) (f' := (17, [some (vR 2), some (vI p)], [vI 0], LAY (shA A) (shF F), 0, 0)) hc5 1 rfl trivial ?_
    refine R_retz hc5 rfl rfl (Or.inl rfl) ?_
    refine R_s (f' := (20, [some (vR 1), some (vI 1), some (vI p), some (vI g), some (vR 29), none, none, none, none, none], [vI 0], LAY (shA A) (shF F), 0, 0)) hc80 0 rfl trivial ?_
    refine R_if (t := 30) hc80 rfl rfl (fun (z : ¬ 0 = 0) => absurd z (by decide)) (fun (_ : ¬ (¬ 0 = 0)) => ?_)
    refine R_s (P := True) (f' := (26, [some (vR 1), some (vI 1), some (vI p), some (vI g), some (vR 29), none, none, none, none, none], [vI (-3), vR 1], LAY (shA A) (shF F), 0, 0)) hc80 2 rfl trivial ?_
    refine R_cv hc80 rfl rfl ?_ (fun r G h => h)
    refine R_s (P := True) (f' := (3, [some (vR 1), some (vI (-3))], [vI (-2), vI (-3)], LAY (shA A) (shF F), 0, 0)) hc93 2 rfl trivial ?_
    refine R_ic (t := 23) hc93 rfl rfl (fun (z : (-2) < (-3)) => absurd z (by decide)) (fun (_ : ¬ ((-2) < (-3))) => ?_)
    refine R_s (P := True) (f' := (9, [some (vR 1), some (vI (-3))], [vI (-8), vI (-3)], LAY (shA A) (shF F), 0, 0)) hc93 2 rfl trivial ?_
    refine R_ic (t := 23) hc93 rfl rfl (fun (z : (-3) < (-8)) => absurd z (by decide)) (fun (_ : ¬ ((-3) < (-8))) => ?_)
    refine R_s (P := inI 3 ∧ (0 ≤ 3 ∧ 3 < ((A 87).length : Int)) ∧ inI ((rd (A 87) 3) + 1) ∧ (0 ≤ 3 ∧ 3 < ((A 87).length : Int)) ∧ True) (f' := (24, [some (vR 1), some (vI (-3))], [vI (-3)], LAY (u (shA A) 87 (wr (A 87) 3 ((rd (A 87) 3) + 1))) (shF F), 0, 0)) hc93 10 rfl ⟨⟨by omega, by omega⟩, ⟨by omega, by omega⟩, ⟨by omega, by omega⟩, ⟨by omega, by omega⟩, trivial⟩ ?_
    refine R_reti hc93 rfl rfl ?_
    refine R_s (f' := (29, [some (vR 1), some (vI 1), some (vI p), some (vI g), some (vR 29), none, none, none, none, none], [vI (-3)], LAY (u (shA A) 87 (wr (A 87) 3 ((rd (A 87) 3) + 1))) (shF F), 0, 0)) hc80 0 rfl trivial ?_
    refine R_reti hc80 rfl rfl ⟨⟨_, rfl⟩, ⟨_, _, rfl, rfl⟩, ?_⟩
    refine R_s (P := True) (f' := (2, [some (vR 88), some (vI 1), some (vI p), some (vI g), none, none, none, none, none, none], [vI 1, vR 88], LAY (u (shA A) 87 (wr (A 87) 3 ((rd (A 87) 3) + 1))) (shF F), 0, 0)) hc154 2 rfl trivial ?_
    refine R_cv hc154 rfl rfl ?_ (fun r G h => h)
    refine R_s (P := inI ((F 0) - 1) ∧ True) (f' := (8, [some (vR 88), some (vI 1)], [vI ((F 0) - 1), vI 0, vI 1], LAY (u (shA A) 87 (wr (A 87) 3 ((rd (A 87) 3) + 1))) (shF F), 0, 0)) hc108 6 rfl ⟨⟨by omega, by omega⟩, trivial⟩ ?_
    refine R_cs hc108 rfl rfl ?_ (fun r G h => h)
    refine R_s (P := True) (f' := (2, [some (vI 1), some (vI 0), some (vI ((F 0) - 1))], [vI 0, vI 1], LAY (u (shA A) 87 (wr (A 87) 3 ((rd (A 87) 3) + 1))) (shF F), 0, 0)) hc104 2 rfl trivial ?_
    refine R_ic (t := 14) hc104 rfl rfl (fun (z : 1 < 0) => absurd z (by decide)) (fun (_ : ¬ (1 < 0)) => ?_)
    refine R_s (P := True) (f' := (7, [some (vI 1), some (vI 0), some (vI ((F 0) - 1))], [vI ((F 0) - 1), vI 1], LAY (u (shA A) 87 (wr (A 87) 3 ((rd (A 87) 3) + 1))) (shF F), 0, 0)) hc104 2 rfl trivial ?_
    refine R_ic (t := 14) hc104 rfl rfl (fun (z : (F 0) - 1 < 1) => absurd z (by omega)) (fun (_ : ¬ ((F 0) - 1 < 1)) => ?_)
    refine R_s (P := True) (f' := (15, [some (vI 1), some (vI 0), some (vI ((F 0) - 1))], [vI 1], LAY (u (shA A) 87 (wr (A 87) 3 ((rd (A 87) 3) + 1))) (shF F), 0, 0)) hc104 2 rfl trivial ?_
    refine R_retz hc104 rfl rfl (Or.inr rfl) ?_
    refine R_s (f' := (11, [some (vR 88), some (vI 1)], [vI 1], LAY (u (shA A) 87 (wr (A 87) 3 ((rd (A 87) 3) + 1))) (shF F), 0, 0)) hc108 0 rfl trivial ?_
    refine R_retz hc108 rfl rfl (Or.inr rfl) ?_
    refine R_s (f' := (5, [some (vR 88), some (vI 1), some (vI p), some (vI g), none, none, none, none, none, none], [vI 1], LAY (u (shA A) 87 (wr (A 87) 3 ((rd (A 87) 3) + 1))) (shF F), 0, 0)) hc154 0 rfl trivial ?_
    refine R_if (t := 16) hc154 rfl rfl (fun (z : 1 = 0) => absurd z (by decide)) (fun (_ : ¬ (1 = 0)) => ?_)
    refine R_s (P := True) (f' := (10, [some (vR 88), some (vI 1), some (vI p), some (vI g), none, none, none, none, none, none], [vI p, vR 88], LAY (u (shA A) 87 (wr (A 87) 3 ((rd (A 87) 3) + 1))) (shF F), 0, 0)) hc154 2 rfl trivial ?_
    refine R_cv hc154 rfl rfl ?_ (fun r G h => h)
    refine R_s (P := inI ((F 3) - 1) ∧ True) (f' := (8, [some (vR 88), some (vI p)], [vI ((F 3) - 1), vI 0, vI p], LAY (u (shA A) 87 (wr (A 87) 3 ((rd (A 87) 3) + 1))) (shF F), 0, 0)) hc106 6 rfl ⟨⟨by omega, by omega⟩, trivial⟩ ?_
    refine R_cs hc106 rfl rfl ?_ (fun r G h => h)
    refine R_s (P := True) (f' := (2, [some (vI p), some (vI 0), some (vI ((F 3) - 1))], [vI 0, vI p], LAY (u (shA A) 87 (wr (A 87) 3 ((rd (A 87) 3) + 1))) (shF F), 0, 0)) hc104 2 rfl trivial ?_
    refine R_ic (t := 14) hc104 rfl rfl (fun (_ : p < 0) => ?_) (fun (z : ¬ (p < 0)) => absurd (show p < 0 by omega) z)
    refine R_s (P := True) (f' := (15, [some (vI p), some (vI 0), some (vI ((F 3) - 1))], [vI 0], LAY (u (shA A) 87 (wr (A 87) 3 ((rd (A 87) 3) + 1))) (shF F), 0, 0)) hc104 1 rfl trivial ?_
    refine R_retz hc104 rfl rfl (Or.inl rfl) ?_
    refine R_s (f' := (11, [some (vR 88), some (vI p)], [vI 0], LAY (u (shA A) 87 (wr (A 87) 3 ((rd (A 87) 3) + 1))) (shF F), 0, 0)) hc106 0 rfl trivial ?_
    refine R_retz hc106 rfl rfl (Or.inl rfl) ?_
    refine R_s (f' := (13, [some (vR 88), some (vI 1), some (vI p), some (vI g), none, none, none, none, none, none], [vI 0], LAY (u (shA A) 87 (wr (A 87) 3 ((rd (A 87) 3) + 1))) (shF F), 0, 0)) hc154 0 rfl trivial ?_
    refine R_if (t := 23) hc154 rfl rfl (fun (z : ¬ 0 = 0) => absurd z (by decide)) (fun (_ : ¬ (¬ 0 = 0)) => ?_)
    refine R_s (P := True) (f' := (19, [some (vR 88), some (vI 1), some (vI p), some (vI g), none, none, none, none, none, none], [vI (-3), vR 88], LAY (u (shA A) 87 (wr (A 87) 3 ((rd (A 87) 3) + 1))) (shF F), 0, 0)) hc154 2 rfl trivial ?_
    refine R_cv hc154 rfl rfl ?_ (fun r G h => h)
    refine R_s (P := inI 3 ∧ (0 ≤ 3 ∧ 3 < ((A 87).length : Int)) ∧ inI ((rd (A 87) 3) + 1) ∧ (0 ≤ 3 ∧ 3 < ((A 87).length : Int)) ∧ True) (f' := (12, [some (vR 88), some (vI (-3))], [vI (-3)], LAY (u (u (shA A) 87 (wr (A 87) 3 ((rd (A 87) 3) + 1))) 89 (wr (A 87) 3 ((rd (A 87) 3) + 1))) (shF F), 0, 0)) hc105 10 rfl ⟨⟨by omega, by omega⟩, ⟨by omega, by omega⟩, ⟨by omega, by omega⟩, ⟨by omega, by omega⟩, trivial⟩ ?_
    refine R_reti hc105 rfl rfl ?_
    refine R_s (f' := (22, [some (vR 88), some (vI 1), some (vI p), some (vI g), none, none, none, none, none, none], [vI (-3)], LAY (u (u (shA A) 87 (wr (A 87) 3 ((rd (A 87) 3) + 1))) 89 (wr (A 87) 3 ((rd (A 87) 3) + 1))) (shF F), 0, 0)) hc154 0 rfl trivial ?_
    refine R_reti hc154 rfl rfl ?_
    first
      | (exfalso; omega; done)
      | exact ⟨rfl, (u A 87 (wr (A 87) 3 ((rd (A 87) 3) + 1))), F, rfl, rfl, REL_ref hR0 (by decide) (by decide)⟩
  · refine R_s (P := True) (f' := (9, [some (vR 2), some (vI p)], [vI (F 3), vI p], LAY (shA A) (shF F), 0, 0)) hc5 3 rfl trivial ?_
    refine R_ic (t := 16) hc5 rfl rfl (fun (c5 : F 3 ≤ p) => ?_) (fun (c5 : ¬ (F 3 ≤ p)) => ?_)
    · refine R_s (P := True) (f' := (17, [some (vR 2), some (vI p)], [vI 0], LAY (shA A) (shF F), 0, 0)) hc5 1 rfl trivial ?_
      refine R_retz hc5 rfl rfl (Or.inl rfl) ?_
      refine R_s (f' := (20, [some (vR 1), some (vI 1), some (vI p), some (vI g), some (vR 29), none, none, none, none, none], [vI 0], LAY (shA A) (shF F), 0, 0)) hc80 0 rfl trivial ?_
      refine R_if (t := 30) hc80 rfl rfl (fun (z : ¬ 0 = 0) => absurd z (by decide)) (fun (_ : ¬ (¬ 0 = 0)) => ?_)
      refine R_s (P := True) (f' := (26, [some (vR 1), some (vI 1), some (vI p), some (vI g), some (vR 29), none, none, none, none, none], [vI (-3), vR 1], LAY (shA A) (shF F), 0, 0)) hc80 2 rfl trivial ?_
      refine R_cv hc80 rfl rfl ?_ (fun r G h => h)
      refine R_s (P := True) (f' := (3, [some (vR 1), some (vI (-3))], [vI (-2), vI (-3)], LAY (shA A) (shF F), 0, 0)) hc93 2 rfl trivial ?_
      refine R_ic (t := 23) hc93 rfl rfl (fun (z : (-2) < (-3)) => absurd z (by decide)) (fun (_ : ¬ ((-2) < (-3))) => ?_)
      refine R_s (P := True) (f' := (9, [some (vR 1), some (vI (-3))], [vI (-8), vI (-3)], LAY (shA A) (shF F), 0, 0)) hc93 2 rfl trivial ?_
      refine R_ic (t := 23) hc93 rfl rfl (fun (z : (-3) < (-8)) => absurd z (by decide)) (fun (_ : ¬ ((-3) < (-8))) => ?_)
      refine R_s (P := inI 3 ∧ (0 ≤ 3 ∧ 3 < ((A 87).length : Int)) ∧ inI ((rd (A 87) 3) + 1) ∧ (0 ≤ 3 ∧ 3 < ((A 87).length : Int)) ∧ True) (f' := (24, [some (vR 1), some (vI (-3))], [vI (-3)], LAY (u (shA A) 87 (wr (A 87) 3 ((rd (A 87) 3) + 1))) (shF F), 0, 0)) hc93 10 rfl ⟨⟨by omega, by omega⟩, ⟨by omega, by omega⟩, ⟨by omega, by omega⟩, ⟨by omega, by omega⟩, trivial⟩ ?_
      refine R_reti hc93 rfl rfl ?_
      refine R_s (f' := (29, [some (vR 1), some (vI 1), some (vI p), some (vI g), some (vR 29), none, none, none, none, none], [vI (-3)], LAY (u (shA A) 87 (wr (A 87) 3 ((rd (A 87) 3) + 1))) (shF F), 0, 0)) hc80 0 rfl trivial ?_
      refine R_reti hc80 rfl rfl ⟨⟨_, rfl⟩, ⟨_, _, rfl, rfl⟩, ?_⟩
      refine R_s (P := True) (f' := (2, [some (vR 88), some (vI 1), some (vI p), some (vI g), none, none, none, none, none, none], [vI 1, vR 88], LAY (u (shA A) 87 (wr (A 87) 3 ((rd (A 87) 3) + 1))) (shF F), 0, 0)) hc154 2 rfl trivial ?_
      refine R_cv hc154 rfl rfl ?_ (fun r G h => h)
      refine R_s (P := inI ((F 0) - 1) ∧ True) (f' := (8, [some (vR 88), some (vI 1)], [vI ((F 0) - 1), vI 0, vI 1], LAY (u (shA A) 87 (wr (A 87) 3 ((rd (A 87) 3) + 1))) (shF F), 0, 0)) hc108 6 rfl ⟨⟨by omega, by omega⟩, trivial⟩ ?_
      refine R_cs hc108 rfl rfl ?_ (fun r G h => h)
      refine R_s (P := True) (f' := (2, [some (vI 1), some (vI 0), some (vI ((F 0) - 1))], [vI 0, vI 1], LAY (u (shA A) 87 (wr (A 87) 3 ((rd (A 87) 3) + 1))) (shF F), 0, 0)) hc104 2 rfl trivial ?_
      refine R_ic (t := 14) hc104 rfl rfl (fun (z : 1 < 0) => absurd z (by decide)) (fun (_ : ¬ (1 < 0)) => ?_)
      refine R_s (P := True) (f' := (7, [some (vI 1), some (vI 0), some (vI ((F 0) - 1))], [vI ((F 0) - 1), vI 1], LAY (u (shA A) 87 (wr (A 87) 3 ((rd (A 87) 3) + 1))) (shF F), 0, 0)) hc104 2 rfl trivial ?_
      refine R_ic (t := 14) hc104 rfl rfl (fun (z : (F 0) - 1 < 1) => absurd z (by omega)) (fun (_ : ¬ ((F 0) - 1 < 1)) => ?_)
      refine R_s (P := True) (f' := (15, [some (vI 1), some (vI 0), some (vI ((F 0) - 1))], [vI 1], LAY (u (shA A) 87 (wr (A 87) 3 ((rd (A 87) 3) + 1))) (shF F), 0, 0)) hc104 2 rfl trivial ?_
      refine R_retz hc104 rfl rfl (Or.inr rfl) ?_
      refine R_s (f' := (11, [some (vR 88), some (vI 1)], [vI 1], LAY (u (shA A) 87 (wr (A 87) 3 ((rd (A 87) 3) + 1))) (shF F), 0, 0)) hc108 0 rfl trivial ?_
      refine R_retz hc108 rfl rfl (Or.inr rfl) ?_
      refine R_s (f' := (5, [some (vR 88), some (vI 1), some (vI p), some (vI g), none, none, none, none, none, none], [vI 1], LAY (u (shA A) 87 (wr (A 87) 3 ((rd (A 87) 3) + 1))) (shF F), 0, 0)) hc154 0 rfl trivial ?_
      refine R_if (t := 16) hc154 rfl rfl (fun (z : 1 = 0) => absurd z (by decide)) (fun (_ : ¬ (1 = 0)) => ?_)
      refine R_s (P := True) (f' := (10, [some (vR 88), some (vI 1), some (vI p), some (vI g), none, none, none, none, none, none], [vI p, vR 88], LAY (u (shA A) 87 (wr (A 87) 3 ((rd (A 87) 3) + 1))) (shF F), 0, 0)) hc154 2 rfl trivial ?_
      refine R_cv hc154 rfl rfl ?_ (fun r G h => h)
      refine R_s (P := inI ((F 3) - 1) ∧ True) (f' := (8, [some (vR 88), some (vI p)], [vI ((F 3) - 1), vI 0, vI p], LAY (u (shA A) 87 (wr (A 87) 3 ((rd (A 87) 3) + 1))) (shF F), 0, 0)) hc106 6 rfl ⟨⟨by omega, by omega⟩, trivial⟩ ?_
      refine R_cs hc106 rfl rfl ?_ (fun r G h => h)
      refine R_s (P := True) (f' := (2, [some (vI p), some (vI 0), some (vI ((F 3) - 1))], [vI 0, vI p], LAY (u (shA A) 87 (wr (A 87) 3 ((rd (A 87) 3) + 1))) (shF F), 0, 0)) hc104 2 rfl trivial ?_
      refine R_ic (t := 14) hc104 rfl rfl (fun (z : p < 0) => absurd z (by omega)) (fun (_ : ¬ (p < 0)) => ?_)
      refine R_s (P := True) (f' := (7, [some (vI p), some (vI 0), some (vI ((F 3) - 1))], [vI ((F 3) - 1), vI p], LAY (u (shA A) 87 (wr (A 87) 3 ((rd (A 87) 3) + 1))) (shF F), 0, 0)) hc104 2 rfl trivial ?_
      refine R_ic (t := 14) hc104 rfl rfl (fun (_ : (F 3) - 1 < p) => ?_) (fun (z : ¬ ((F 3) - 1 < p)) => absurd (show (F 3) - 1 < p by omega) z)
      refine R_s (P := True) (f' := (15, [some (vI p), some (vI 0), some (vI ((F 3) - 1))], [vI 0], LAY (u (shA A) 87 (wr (A 87) 3 ((rd (A 87) 3) + 1))) (shF F), 0, 0)) hc104 1 rfl trivial ?_
      refine R_retz hc104 rfl rfl (Or.inl rfl) ?_
      refine R_s (f' := (11, [some (vR 88), some (vI p)], [vI 0], LAY (u (shA A) 87 (wr (A 87) 3 ((rd (A 87) 3) + 1))) (shF F), 0, 0)) hc106 0 rfl trivial ?_
      refine R_retz hc106 rfl rfl (Or.inl rfl) ?_
      refine R_s (f' := (13, [some (vR 88), some (vI 1), some (vI p), some (vI g), none, none, none, none, none, none], [vI 0], LAY (u (shA A) 87 (wr (A 87) 3 ((rd (A 87) 3) + 1))) (shF F), 0, 0)) hc154 0 rfl trivial ?_
      refine R_if (t := 23) hc154 rfl rfl (fun (z : ¬ 0 = 0) => absurd z (by decide)) (fun (_ : ¬ (¬ 0 = 0)) => ?_)
      refine R_s (P := True) (f' := (19, [some (vR 88), some (vI 1), some (vI p), some (vI g), none, none, none, none, none, none], [vI (-3), vR 88], LAY (u (shA A) 87 (wr (A 87) 3 ((rd (A 87) 3) + 1))) (shF F), 0, 0)) hc154 2 rfl trivial ?_
      refine R_cv hc154 rfl rfl ?_ (fun r G h => h)
      refine R_s (P := inI 3 ∧ (0 ≤ 3 ∧ 3 < ((A 87).length : Int)) ∧ inI ((rd (A 87) 3) + 1) ∧ (0 ≤ 3 ∧ 3 < ((A 87).length : Int)) ∧ True) (f' := (12, [some (vR 88), some (vI (-3))], [vI (-3)], LAY (u (u (shA A) 87 (wr (A 87) 3 ((rd (A 87) 3) + 1))) 89 (wr (A 87) 3 ((rd (A 87) 3) + 1))) (shF F), 0, 0)) hc105 10 rfl ⟨⟨by omega, by omega⟩, ⟨by omega, by omega⟩, ⟨by omega, by omega⟩, ⟨by omega, by omega⟩, trivial⟩ ?_
      refine R_reti hc105 rfl rfl ?_
      refine R_s (f' := (22, [some (vR 88), some (vI 1), some (vI p), some (vI g), none, none, none, none, none, none], [vI (-3)], LAY (u (u (shA A) 87 (wr (A 87) 3 ((rd (A 87) 3) + 1))) 89 (wr (A 87) 3 ((rd (A 87) 3) + 1))) (shF F), 0, 0)) hc154 0 rfl trivial ?_
      refine R_reti hc154 rfl rfl ?_
      first
        | (exfalso; omega; done)
        | exact ⟨rfl, (u A 87 (wr (A 87) 3 ((rd (A 87) 3) + 1))), F, rfl, rfl, REL_ref hR0 (by decide) (by decide)⟩
    · refine R_s (P := True) (f' := (17, [some (vR 2), some (vI p)], [vI 1], LAY (shA A) (shF F), 0, 0)) hc5 2 rfl trivial ?_
      refine R_retz hc5 rfl rfl (Or.inr rfl) ?_
      refine R_s (f' := (20, [some (vR 1), some (vI 1), some (vI p), some (vI g), some (vR 29), none, none, none, none, none], [vI 1], LAY (shA A) (shF F), 0, 0)) hc80 0 rfl trivial ?_
      refine R_if (t := 30) hc80 rfl rfl (fun (_ : ¬ 1 = 0) => ?_) (fun (z : ¬ (¬ 1 = 0)) => absurd (by decide) z)
      refine R_s (P := True) (f' := (35, [some (vR 1), some (vI 1), some (vI p), some (vI g), some (vR 29), none, none, none, none, none], [vI 1, vR 12], LAY (shA A) (shF F), 0, 0)) hc80 3 rfl trivial ?_
      refine R_cv hc80 rfl rfl (l_yieldC (A := (shA A)) (F := (shF F)) (LENS_sh hL) ⟨t1, t2⟩ 1 (by decide) (fun i hi => R_prod hR0 (d := 1) (by decide) i hi)) (fun r G9 hp9 => ?_)
      obtain ⟨e1, rfl⟩ := hp9
      have e2 : r = some (vI (N_Y A F 1)) := e1
      clear e1
      subst e2
      refine R_s (f' := (38, [some (vR 1), some (vI 1), some (vI p), some (vI g), some (vR 29), none, none, none, none, none], [vI (N_Y A F 1)], LAY (shA A) (shF F), 0, 0)) hc80 0 rfl trivial ?_
      refine R_s (P := True) (f' := (49, [some (vR 1), some (vI 1), some (vI p), some (vI g), some (vR 29), some (vI (N_Y A F 1)), none, none, none, none], [vI (F 2), vR 2, vI 1], LAY (shA A) (shF F), 0, 0)) hc80 6 rfl trivial ?_
      refine R_cv hc80 rfl rfl (l_doubtful (A := (shA A)) (F := (shF F)) (n := (F 3).toNat) (LENS_sh hL) (R_n hR0) (R_n30 hR0) (yr := F 2)) (fun r G9 hp9 => ?_)
      obtain ⟨rfl, rfl⟩ := hp9
      refine R_s (f' := (52, [some (vR 1), some (vI 1), some (vI p), some (vI g), some (vR 29), some (vI (N_Y A F 1)), none, none, none, none], [vI ((rk (F 2) (A 4) (A 6) (F 3).toNat : Nat) : Int), vI 1], LAY (shA A) (shF F), 0, 0)) hc80 0 rfl trivial ?_
      refine R_s (P := (0 ≤ ((rk (F 2) (A 4) (A 6) (F 3).toNat : Nat) : Int) ∧ ((rk (F 2) (A 4) (A 6) (F 3).toNat : Nat) : Int) < 31 ∧ 0 ≤ 1 ∧ 1 * 2 ^ (((rk (F 2) (A 4) (A 6) (F 3).toNat : Nat) : Int) : Int).toNat ≤ 2147483647) ∧ True) (f' := (61, [some (vR 1), some (vI 1), some (vI p), some (vI g), some (vR 29), some (vI (N_Y A F 1)), some (vI (1 * 2 ^ (((rk (F 2) (A 4) (A 6) (F 3).toNat : Nat) : Int) : Int).toNat)), some (vI 0), some (vI 0), none], [], LAY (shA A) (shF F), 0, 0)) hc80 6 rfl ⟨⟨by omega, by omega, by omega, by (rw [Int.toNat_natCast, Int.one_mul]; have z2 : ((2 ^ rk (F 2) (A 4) (A 6) (F 3).toNat : Nat) : Int) ≤ 32 := (by omega); push_cast at z2; omega)⟩, trivial⟩ ?_
      refine bound_C1 hR0 hd (p := p) (g := g) ⟨by omega, by omega⟩ rfl (by rw [Int.toNat_natCast, Int.one_mul]; push_cast; rfl) (fun b x v9 l8 l9 l10 l11 l75 l76 l77 l78 k8 k9 k10 k11 k75 k76 k77 k78 v14 v15 hB => ?_)
      refine R_s (P := True) (f' := (149, [some (vR 1), some (vI 1), some (vI p), some (vI g), some (vR 29), some (vI (N_Y A F 1)), some (vI (1 * 2 ^ (((rk (F 2) (A 4) (A 6) (F 3).toNat : Nat) : Int) : Int).toNat)), some (vI b), some (vI x), v9], [vI b], LAY (u (u (u (u (u (u (u (u (shA A) 8 l8) 9 l9) 10 l10) 11 l11) 75 l75) 76 l76) 77 l77) 78 l78) (u (u (shF F) 14 v14) 15 v15), 0, 0)) hc80 1 rfl trivial ?_
      refine R_reti hc80 rfl rfl ⟨⟨_, rfl⟩, ⟨_, _, rfl, rfl⟩, ?_⟩
      refine R_s (P := True) (f' := (2, [some (vR 88), some (vI 1), some (vI p), some (vI g), none, none, none, none, none, none], [vI 1, vR 88], LAY (u (u (u (u (u (u (u (u (shA A) 8 l8) 9 l9) 10 l10) 11 l11) 75 l75) 76 l76) 77 l77) 78 l78) (u (u (shF F) 14 v14) 15 v15), 0, 0)) hc154 2 rfl trivial ?_
      refine R_cv hc154 rfl rfl ?_ (fun r G h => h)
      refine R_s (P := inI ((F 0) - 1) ∧ True) (f' := (8, [some (vR 88), some (vI 1)], [vI ((F 0) - 1), vI 0, vI 1], LAY (u (u (u (u (u (u (u (u (shA A) 8 l8) 9 l9) 10 l10) 11 l11) 75 l75) 76 l76) 77 l77) 78 l78) (u (u (shF F) 14 v14) 15 v15), 0, 0)) hc108 6 rfl ⟨⟨by omega, by omega⟩, trivial⟩ ?_
      refine R_cs hc108 rfl rfl ?_ (fun r G h => h)
      refine R_s (P := True) (f' := (2, [some (vI 1), some (vI 0), some (vI ((F 0) - 1))], [vI 0, vI 1], LAY (u (u (u (u (u (u (u (u (shA A) 8 l8) 9 l9) 10 l10) 11 l11) 75 l75) 76 l76) 77 l77) 78 l78) (u (u (shF F) 14 v14) 15 v15), 0, 0)) hc104 2 rfl trivial ?_
      refine R_ic (t := 14) hc104 rfl rfl (fun (z : 1 < 0) => absurd z (by decide)) (fun (_ : ¬ (1 < 0)) => ?_)
      refine R_s (P := True) (f' := (7, [some (vI 1), some (vI 0), some (vI ((F 0) - 1))], [vI ((F 0) - 1), vI 1], LAY (u (u (u (u (u (u (u (u (shA A) 8 l8) 9 l9) 10 l10) 11 l11) 75 l75) 76 l76) 77 l77) 78 l78) (u (u (shF F) 14 v14) 15 v15), 0, 0)) hc104 2 rfl trivial ?_
      refine R_ic (t := 14) hc104 rfl rfl (fun (z : (F 0) - 1 < 1) => absurd z (by omega)) (fun (_ : ¬ ((F 0) - 1 < 1)) => ?_)
      refine R_s (P := True) (f' := (15, [some (vI 1), some (vI 0), some (vI ((F 0) - 1))], [vI 1], LAY (u (u (u (u (u (u (u (u (shA A) 8 l8) 9 l9) 10 l10) 11 l11) 75 l75) 76 l76) 77 l77) 78 l78) (u (u (shF F) 14 v14) 15 v15), 0, 0)) hc104 2 rfl trivial ?_
      refine R_retz hc104 rfl rfl (Or.inr rfl) ?_
      refine R_s (f' := (11, [some (vR 88), some (vI 1)], [vI 1], LAY (u (u (u (u (u (u (u (u (shA A) 8 l8) 9 l9) 10 l10) 11 l11) 75 l75) 76 l76) 77 l77) 78 l78) (u (u (shF F) 14 v14) 15 v15), 0, 0)) hc108 0 rfl trivial ?_
      refine R_retz hc108 rfl rfl (Or.inr rfl) ?_
      refine R_s (f' := (5, [some (vR 88), some (vI 1), some (vI p), some (vI g), none, none, none, none, none, none], [vI 1], LAY (u (u (u (u (u (u (u (u (shA A) 8 l8) 9 l9) 10 l10) 11 l11) 75 l75) 76 l76) 77 l77) 78 l78) (u (u (shF F) 14 v14) 15 v15), 0, 0)) hc154 0 rfl trivial ?_
      refine R_if (t := 16) hc154 rfl rfl (fun (z : 1 = 0) => absurd z (by decide)) (fun (_ : ¬ (1 = 0)) => ?_)
      refine R_s (P := True) (f' := (10, [some (vR 88), some (vI 1), some (vI p), some (vI g), none, none, none, none, none, none], [vI p, vR 88], LAY (u (u (u (u (u (u (u (u (shA A) 8 l8) 9 l9) 10 l10) 11 l11) 75 l75) 76 l76) 77 l77) 78 l78) (u (u (shF F) 14 v14) 15 v15), 0, 0)) hc154 2 rfl trivial ?_
      refine R_cv hc154 rfl rfl ?_ (fun r G h => h)
      refine R_s (P := inI ((F 3) - 1) ∧ True) (f' := (8, [some (vR 88), some (vI p)], [vI ((F 3) - 1), vI 0, vI p], LAY (u (u (u (u (u (u (u (u (shA A) 8 l8) 9 l9) 10 l10) 11 l11) 75 l75) 76 l76) 77 l77) 78 l78) (u (u (shF F) 14 v14) 15 v15), 0, 0)) hc106 6 rfl ⟨⟨by omega, by omega⟩, trivial⟩ ?_
      refine R_cs hc106 rfl rfl ?_ (fun r G h => h)
      refine R_s (P := True) (f' := (2, [some (vI p), some (vI 0), some (vI ((F 3) - 1))], [vI 0, vI p], LAY (u (u (u (u (u (u (u (u (shA A) 8 l8) 9 l9) 10 l10) 11 l11) 75 l75) 76 l76) 77 l77) 78 l78) (u (u (shF F) 14 v14) 15 v15), 0, 0)) hc104 2 rfl trivial ?_
      refine R_ic (t := 14) hc104 rfl rfl (fun (z : p < 0) => absurd z (by omega)) (fun (_ : ¬ (p < 0)) => ?_)
      refine R_s (P := True) (f' := (7, [some (vI p), some (vI 0), some (vI ((F 3) - 1))], [vI ((F 3) - 1), vI p], LAY (u (u (u (u (u (u (u (u (shA A) 8 l8) 9 l9) 10 l10) 11 l11) 75 l75) 76 l76) 77 l77) 78 l78) (u (u (shF F) 14 v14) 15 v15), 0, 0)) hc104 2 rfl trivial ?_
      refine R_ic (t := 14) hc104 rfl rfl (fun (z : (F 3) - 1 < p) => absurd z (by omega)) (fun (_ : ¬ ((F 3) - 1 < p)) => ?_)
      refine R_s (P := True) (f' := (15, [some (vI p), some (vI 0), some (vI ((F 3) - 1))], [vI 1], LAY (u (u (u (u (u (u (u (u (shA A) 8 l8) 9 l9) 10 l10) 11 l11) 75 l75) 76 l76) 77 l77) 78 l78) (u (u (shF F) 14 v14) 15 v15), 0, 0)) hc104 2 rfl trivial ?_
      refine R_retz hc104 rfl rfl (Or.inr rfl) ?_
      refine R_s (f' := (11, [some (vR 88), some (vI p)], [vI 1], LAY (u (u (u (u (u (u (u (u (shA A) 8 l8) 9 l9) 10 l10) 11 l11) 75 l75) 76 l76) 77 l77) 78 l78) (u (u (shF F) 14 v14) 15 v15), 0, 0)) hc106 0 rfl trivial ?_
      refine R_retz hc106 rfl rfl (Or.inr rfl) ?_
      refine R_s (f' := (13, [some (vR 88), some (vI 1), some (vI p), some (vI g), none, none, none, none, none, none], [vI 1], LAY (u (u (u (u (u (u (u (u (shA A) 8 l8) 9 l9) 10 l10) 11 l11) 75 l75) 76 l76) 77 l77) 78 l78) (u (u (shF F) 14 v14) 15 v15), 0, 0)) hc154 0 rfl trivial ?_
      refine R_if (t := 23) hc154 rfl rfl (fun (_ : ¬ 1 = 0) => ?_) (fun (z : ¬ (¬ 1 = 0)) => absurd (by decide) z)
      refine R_mono (bound_M hR0 (A0 := (u (u (u (u (u (u (u (u (shA A) 8 l8) 9 l9) 10 l10) 11 l11) 75 l75) 76 l76) 77 l77) 78 l78)) (F0 := (u (u (shF F) 14 v14) 15 v15)) rfl rfl rfl rfl rfl rfl rfl rfl rfl rfl rfl rfl rfl rfl (hL 109 (by decide)) (hL 104 (by decide)) (hL 105 (by decide)) (hL 110 (by decide)) (hL 111 (by decide)) (hL 108 (by decide)) (hL 107 (by decide)) hD.1 hD.2 rfl (p := p) (g := g) ⟨by omega, by omega⟩) (fun r8 G8 hp8 => ?_)
      obtain ⟨b2, l109, l104, l105, l110, l111, l108, l107, v28, v29, v30, v31, rfl, hB2, rfl, k109, k104, k105, k110, k111, k108, k107⟩ := hp8
      have e8 : b2 = b := BEST_eq hB hB2 (fun i _ => by
        obtain ⟨w1, h1, h2⟩ := way_CM (A := A) (F := F) i
        exact ⟨w1, h1, by unfold vW; rw [h2]⟩) (fun j _ => by
        obtain ⟨w1, h1, h2⟩ := way_MC (A := A) (F := F) j
        exact ⟨w1, h1, by unfold vW; rw [h2]⟩)
      first
        | (exfalso; omega; done)
        | exact ⟨(by rw [show b2 = b by omega]), (u (u (u (u (u (u (u (u (u (u (u (u (u (u (u A 8 l8) 9 l9) 10 l10) 11 l11) 75 l75) 76 l76) 77 l77) 78 l78) 109 l109) 104 l104) 105 l105) 110 l110) 111 l111) 108 l108) 107 l107), (u (u (u (u (u (u F 14 v14) 15 v15) 28 v28) 29 v29) 30 v30) 31 v31), rfl, rfl, ⟨(LENS_u (LENS_u (LENS_u (LENS_u (LENS_u (LENS_u (LENS_u (LENS_u (LENS_u (LENS_u (LENS_u (LENS_u (LENS_u (LENS_u (LENS_u hL (by show (l8).length = (A 8).length; rw [k8, hL 8 (by decide)]; rfl)) (by show (l9).length = (A 9).length; rw [k9, hL 9 (by decide)]; rfl)) (by show (l10).length = (A 10).length; rw [k10, hL 10 (by decide)]; rfl)) (by show (l11).length = (A 11).length; rw [k11, hL 11 (by decide)]; rfl)) (by show (l75).length = (A 75).length; rw [k75, hL 75 (by decide)]; rfl)) (by show (l76).length = (A 76).length; rw [k76, hL 76 (by decide)]; rfl)) (by show (l77).length = (A 77).length; rw [k77, hL 77 (by decide)]; rfl)) (by show (l78).length = (A 78).length; rw [k78, hL 78 (by decide)]; rfl)) (by show (l109).length = (A 109).length; rw [k109, hL 109 (by decide)]; rfl)) (by show (l104).length = (A 104).length; rw [k104, hL 104 (by decide)]; rfl)) (by show (l105).length = (A 105).length; rw [k105, hL 105 (by decide)]; rfl)) (by show (l110).length = (A 110).length; rw [k110, hL 110 (by decide)]; rfl)) (by show (l111).length = (A 111).length; rw [k111, hL 111 (by decide)]; rfl)) (by show (l108).length = (A 108).length; rw [k108, hL 108 (by decide)]; rfl)) (by show (l107).length = (A 107).length; rw [k107, hL 107 (by decide)]; rfl)), hR0.2.1, hR0.2.2.1, hR0.2.2.2.1, hR0.2.2.2.2.1, hR0.2.2.2.2.2.1, hR0.2.2.2.2.2.2.1, hR0.2.2.2.2.2.2.2.1, hR0.2.2.2.2.2.2.2.2.1, (REFU_c hR0.2.2.2.2.2.2.2.2.2)⟩⟩

theorem op_bound_2 {c : Int} {A : Nat → List Int} {F : Nat → Int} (hR : REL c A F) (hc : c < 512) (p g : Int) (i_p : inI p) (i_g : inI g) (hd : (2 : Int) < F 0) (hx : g = 0 ∨ g = 1) : R 80 (0, L0 80 [vR 1, vI 2, vI p, vI g], [], LAY (shA A) (shF F), 0, 0) (fun r G => (∃ x, r = some (vI x)) ∧ (∃ (A1 : Nat → List Int) (F1 : Nat → Int), G = LAY A1 F1 ∧ A1 0 = A 0) ∧ R 154 (0, L0 154 [vR 88, vI 2, vI p, vI g], [], G, 0, 0) (fun r2 G2 => r2 = r ∧ ∃ (A' : Nat → List Int) (F' : Nat → Int), G2 = LAY (shA A') (shF F') ∧ A' 0 = A 0 ∧ REL (c + 1) A' F')) := by
  have hR0 := hR
  obtain ⟨hL, hPE, hTH, hTP, hDE, hLE, hNO, hAC, hRO, hRE⟩ := hR
  have j_p := i_p
  unfold inI at j_p
  have j_g := i_g
  unfold inI at j_g
  have h87 : (A 87).length = 9 := hL 87 (by decide)
  have h99 : (A 99).length = 6 := hL 99 (by decide)
  have r2 := REFU_at hRE (k := 2) (by decide) (by decide) hc
  have r3 := REFU_at hRE (k := 3) (by decide) (by decide) hc
  have r4 := REFU_at hRE (k := 4) (by decide) (by decide) hc
  have r5 := REFU_at hRE (k := 5) (by decide) (by decide) hc
  have r6 := REFU_at hRE (k := 6) (by decide) (by decide) hc
  have r7 := REFU_at hRE (k := 7) (by decide) (by decide) hc
  have r8 := REFU_at hRE (k := 8) (by decide) (by decide) hc
  obtain ⟨t1, t2, t3, t4, t5, t6⟩ := hTH
  obtain ⟨p1, p2, p3, p4, p5, p6⟩ := hPE
  have hD := D_at2 hR0 hd
  have he1 := hD.1.1
  have he2 := hD.1.2.1
  have hme : rd (A 99) 2 = F 10 := by
    have := hD.2.2.2.2.1
    omega
  obtain ⟨so, te, tp, mg, pm, lo, hS⟩ := SPL_ex A F (N_al A F) (N_Q A 39) (F 10).toNat (N_Y A F 2)
  have hk5 : rk (F 2) (A 4) (A 6) (F 3).toNat ≤ 5 := Nat.le_trans (rk_ck (F 2) (A 4) (A 6) (F 3).toNat) (ck5 hR0)
  have h32 := pow_le5 hk5
  refine R_s (P := True) (f' := (2, [some (vR 1), some (vI 2), some (vI p), some (vI g), none, none, none, none, none, none], [vI 2, vR 1], LAY (shA A) (shF F), 0, 0)) hc80 2 rfl trivial ?_
  refine R_cv hc80 rfl rfl ?_ (fun r G h => h)
  refine R_s (P := True) (f' := (2, [some (vR 1), some (vI 2)], [vI 2, vR 1], LAY (shA A) (shF F), 0, 0)) hc99 2 rfl trivial ?_
  refine R_cv hc99 rfl rfl ?_ (fun r G h => h)
  refine R_s (P := True) (f' := (1, [some (vR 1), some (vI 2)], [vI 2], LAY (shA A) (shF F), 0, 0)) hc98 1 rfl trivial ?_
  refine R_if (t := 16) hc98 rfl rfl (fun (z : 2 < 0) => absurd z (by decide)) (fun (_ : ¬ (2 < 0)) => ?_)
  refine R_s (P := True) (f' := (9, [some (vR 1), some (vI 2)], [vI (F 0), vI 2], LAY (shA A) (shF F), 0, 0)) hc98 3 rfl trivial ?_
  refine R_ic (t := 16) hc98 rfl rfl (fun (z : F 0 ≤ 2) => absurd z (by omega)) (fun (_ : ¬ (F 0 ≤ 2)) => ?_)
  refine R_s (P := True) (f' := (17, [some (vR 1), some (vI 2)], [vI 1], LAY (shA A) (shF F), 0, 0)) hc98 2 rfl trivial ?_
  refine R_retz hc98 rfl rfl (Or.inr rfl) ?_
  refine R_s (f' := (5, [some (vR 1), some (vI 2)], [vI 1], LAY (shA A) (shF F), 0, 0)) hc99 0 rfl trivial ?_
  refine R_if (t := 17) hc99 rfl rfl (fun (z : 1 = 0) => absurd z (by decide)) (fun (_ : ¬ (1 = 0)) => ?_)
  refine R_s (P := (0 ≤ (2 : Int) ∧ (2 : Int) < (([some 20, some 29, some 38, some 47, some 56, some 65] : List (Option Nat)).length : Int)) ∧ True) (f' := (18, [some (vR 1), some (vI 2)], [vR 38], LAY (shA A) (shF F), 0, 0)) hc99 5 rfl ⟨(by decide), trivial⟩ ?_
  refine R_reta hc99 rfl rfl ?_
  refine R_s (f' := (5, [some (vR 1), some (vI 2), some (vI p), some (vI g), none, none, none, none, none, none], [vR 38], LAY (shA A) (shF F), 0, 0)) hc80 0 rfl trivial ?_
  refine R_s (P := True) (f' := (17, [some (vR 1), some (vI 2), some (vI p), some (vI g), some (vR 38), none, none, none, none, none], [vI p, vR 2], LAY (shA A) (shF F), 0, 0)) hc80 6 rfl trivial ?_
  refine R_cv hc80 rfl rfl ?_ (fun r G h => h)
  refine R_s (P := True) (f' := (1, [some (vR 2), some (vI p)], [vI p], LAY (shA A) (shF F), 0, 0)) hc5 1 rfl trivial ?_
  refine R_if (t := 16) hc5 rfl rfl (fun (c4 : p < 0) => ?_) (fun (c4 : ¬ (p < 0)) => ?_)
  · refine R_s (P := True) (f' := (17, [some (vR 2), some (vI p)], [vI 0], LAY (shA A) (shF F), 0, 0)) hc5 1 rfl trivial ?_
    refine R_retz hc5 rfl rfl (Or.inl rfl) ?_
    refine R_s (f' := (20, [some (vR 1), some (vI 2), some (vI p), some (vI g), some (vR 38), none, none, none, none, none], [vI 0], LAY (shA A) (shF F), 0, 0)) hc80 0 rfl trivial ?_
    refine R_if (t := 30) hc80 rfl rfl (fun (z : ¬ 0 = 0) => absurd z (by decide)) (fun (_ : ¬ (¬ 0 = 0)) => ?_)
    refine R_s (P := True) (f' := (26, [some (vR 1), some (vI 2), some (vI p), some (vI g), some (vR 38), none, none, none, none, none], [vI (-3), vR 1], LAY (shA A) (shF F), 0, 0)) hc80 2 rfl trivial ?_
    refine R_cv hc80 rfl rfl ?_ (fun r G h => h)
    refine R_s (P := True) (f' := (3, [some (vR 1), some (vI (-3))], [vI (-2), vI (-3)], LAY (shA A) (shF F), 0, 0)) hc93 2 rfl trivial ?_
    refine R_ic (t := 23) hc93 rfl rfl (fun (z : (-2) < (-3)) => absurd z (by decide)) (fun (_ : ¬ ((-2) < (-3))) => ?_)
    refine R_s (P := True) (f' := (9, [some (vR 1), some (vI (-3))], [vI (-8), vI (-3)], LAY (shA A) (shF F), 0, 0)) hc93 2 rfl trivial ?_
    refine R_ic (t := 23) hc93 rfl rfl (fun (z : (-3) < (-8)) => absurd z (by decide)) (fun (_ : ¬ ((-3) < (-8))) => ?_)
    refine R_s (P := inI 3 ∧ (0 ≤ 3 ∧ 3 < ((A 87).length : Int)) ∧ inI ((rd (A 87) 3) + 1) ∧ (0 ≤ 3 ∧ 3 < ((A 87).length : Int)) ∧ True) (f' := (24, [some (vR 1), some (vI (-3))], [vI (-3)], LAY (u (shA A) 87 (wr (A 87) 3 ((rd (A 87) 3) + 1))) (shF F), 0, 0)) hc93 10 rfl ⟨⟨by omega, by omega⟩, ⟨by omega, by omega⟩, ⟨by omega, by omega⟩, ⟨by omega, by omega⟩, trivial⟩ ?_
    refine R_reti hc93 rfl rfl ?_
    refine R_s (f' := (29, [some (vR 1), some (vI 2), some (vI p), some (vI g), some (vR 38), none, none, none, none, none], [vI (-3)], LAY (u (shA A) 87 (wr (A 87) 3 ((rd (A 87) 3) + 1))) (shF F), 0, 0)) hc80 0 rfl trivial ?_
    refine R_reti hc80 rfl rfl ⟨⟨_, rfl⟩, ⟨_, _, rfl, rfl⟩, ?_⟩
    refine R_s (P := True) (f' := (2, [some (vR 88), some (vI 2), some (vI p), some (vI g), none, none, none, none, none, none], [vI 2, vR 88], LAY (u (shA A) 87 (wr (A 87) 3 ((rd (A 87) 3) + 1))) (shF F), 0, 0)) hc154 2 rfl trivial ?_
    refine R_cv hc154 rfl rfl ?_ (fun r G h => h)
    refine R_s (P := inI ((F 0) - 1) ∧ True) (f' := (8, [some (vR 88), some (vI 2)], [vI ((F 0) - 1), vI 0, vI 2], LAY (u (shA A) 87 (wr (A 87) 3 ((rd (A 87) 3) + 1))) (shF F), 0, 0)) hc108 6 rfl ⟨⟨by omega, by omega⟩, trivial⟩ ?_
    refine R_cs hc108 rfl rfl ?_ (fun r G h => h)
    refine R_s (P := True) (f' := (2, [some (vI 2), some (vI 0), some (vI ((F 0) - 1))], [vI 0, vI 2], LAY (u (shA A) 87 (wr (A 87) 3 ((rd (A 87) 3) + 1))) (shF F), 0, 0)) hc104 2 rfl trivial ?_
    refine R_ic (t := 14) hc104 rfl rfl (fun (z : 2 < 0) => absurd z (by decide)) (fun (_ : ¬ (2 < 0)) => ?_)
    refine R_s (P := True) (f' := (7, [some (vI 2), some (vI 0), some (vI ((F 0) - 1))], [vI ((F 0) - 1), vI 2], LAY (u (shA A) 87 (wr (A 87) 3 ((rd (A 87) 3) + 1))) (shF F), 0, 0)) hc104 2 rfl trivial ?_
    refine R_ic (t := 14) hc104 rfl rfl (fun (z : (F 0) - 1 < 2) => absurd z (by omega)) (fun (_ : ¬ ((F 0) - 1 < 2)) => ?_)
    refine R_s (P := True) (f' := (15, [some (vI 2), some (vI 0), some (vI ((F 0) - 1))], [vI 1], LAY (u (shA A) 87 (wr (A 87) 3 ((rd (A 87) 3) + 1))) (shF F), 0, 0)) hc104 2 rfl trivial ?_
    refine R_retz hc104 rfl rfl (Or.inr rfl) ?_
    refine R_s (f' := (11, [some (vR 88), some (vI 2)], [vI 1], LAY (u (shA A) 87 (wr (A 87) 3 ((rd (A 87) 3) + 1))) (shF F), 0, 0)) hc108 0 rfl trivial ?_
    refine R_retz hc108 rfl rfl (Or.inr rfl) ?_
    refine R_s (f' := (5, [some (vR 88), some (vI 2), some (vI p), some (vI g), none, none, none, none, none, none], [vI 1], LAY (u (shA A) 87 (wr (A 87) 3 ((rd (A 87) 3) + 1))) (shF F), 0, 0)) hc154 0 rfl trivial ?_
    refine R_if (t := 16) hc154 rfl rfl (fun (z : 1 = 0) => absurd z (by decide)) (fun (_ : ¬ (1 = 0)) => ?_)
    refine R_s (P := True) (f' := (10, [some (vR 88), some (vI 2), some (vI p), some (vI g), none, none, none, none, none, none], [vI p, vR 88], LAY (u (shA A) 87 (wr (A 87) 3 ((rd (A 87) 3) + 1))) (shF F), 0, 0)) hc154 2 rfl trivial ?_
    refine R_cv hc154 rfl rfl ?_ (fun r G h => h)
    refine R_s (P := inI ((F 3) - 1) ∧ True) (f' := (8, [some (vR 88), some (vI p)], [vI ((F 3) - 1), vI 0, vI p], LAY (u (shA A) 87 (wr (A 87) 3 ((rd (A 87) 3) + 1))) (shF F), 0, 0)) hc106 6 rfl ⟨⟨by omega, by omega⟩, trivial⟩ ?_
    refine R_cs hc106 rfl rfl ?_ (fun r G h => h)
    refine R_s (P := True) (f' := (2, [some (vI p), some (vI 0), some (vI ((F 3) - 1))], [vI 0, vI p], LAY (u (shA A) 87 (wr (A 87) 3 ((rd (A 87) 3) + 1))) (shF F), 0, 0)) hc104 2 rfl trivial ?_
    refine R_ic (t := 14) hc104 rfl rfl (fun (_ : p < 0) => ?_) (fun (z : ¬ (p < 0)) => absurd (show p < 0 by omega) z)
    refine R_s (P := True) (f' := (15, [some (vI p), some (vI 0), some (vI ((F 3) - 1))], [vI 0], LAY (u (shA A) 87 (wr (A 87) 3 ((rd (A 87) 3) + 1))) (shF F), 0, 0)) hc104 1 rfl trivial ?_
    refine R_retz hc104 rfl rfl (Or.inl rfl) ?_
    refine R_s (f' := (11, [some (vR 88), some (vI p)], [vI 0], LAY (u (shA A) 87 (wr (A 87) 3 ((rd (A 87) 3) + 1))) (shF F), 0, 0)) hc106 0 rfl trivial ?_
    refine R_retz hc106 rfl rfl (Or.inl rfl) ?_
    refine R_s (f' := (13, [some (vR 88), some (vI 2), some (vI p), some (vI g), none, none, none, none, none, none], [vI 0], LAY (u (shA A) 87 (wr (A 87) 3 ((rd (A 87) 3) + 1))) (shF F), 0, 0)) hc154 0 rfl trivial ?_
    refine R_if (t := 23) hc154 rfl rfl (fun (z : ¬ 0 = 0) => absurd z (by decide)) (fun (_ : ¬ (¬ 0 = 0)) => ?_)
    refine R_s (P := True) (f' := (19, [some (vR 88), some (vI 2), some (vI p), some (vI g), none, none, none, none, none, none], [vI (-3), vR 88], LAY (u (shA A) 87 (wr (A 87) 3 ((rd (A 87) 3) + 1))) (shF F), 0, 0)) hc154 2 rfl trivial ?_
    refine R_cv hc154 rfl rfl ?_ (fun r G h => h)
    refine R_s (P := inI 3 ∧ (0 ≤ 3 ∧ 3 < ((A 87).length : Int)) ∧ inI ((rd (A 87) 3) + 1) ∧ (0 ≤ 3 ∧ 3 < ((A 87).length : Int)) ∧ True) (f' := (12, [some (vR 88), some (vI (-3))], [vI (-3)], LAY (u (u (shA A) 87 (wr (A 87) 3 ((rd (A 87) 3) + 1))) 89 (wr (A 87) 3 ((rd (A 87) 3) + 1))) (shF F), 0, 0)) hc105 10 rfl ⟨⟨by omega, by omega⟩, ⟨by omega, by omega⟩, ⟨by omega, by omega⟩, ⟨by omega, by omega⟩, trivial⟩ ?_
    refine R_reti hc105 rfl rfl ?_
    refine R_s (f' := (22, [some (vR 88), some (vI 2), some (vI p), some (vI g), none, none, none, none, none, none], [vI (-3)], LAY (u (u (shA A) 87 (wr (A 87) 3 ((rd (A 87) 3) + 1))) 89 (wr (A 87) 3 ((rd (A 87) 3) + 1))) (shF F), 0, 0)) hc154 0 rfl trivial ?_
    refine R_reti hc154 rfl rfl ?_
    first
      | (exfalso; omega; done)
      | exact ⟨rfl, (u A 87 (wr (A 87) 3 ((rd (A 87) 3) + 1))), F, rfl, rfl, REL_ref hR0 (by decide) (by decide)⟩
  · refine R_s (P := True) (f' := (9, [some (vR 2), some (vI p)], [vI (F 3), vI p], LAY (shA A) (shF F), 0, 0)) hc5 3 rfl trivial ?_
    refine R_ic (t := 16) hc5 rfl rfl (fun (c5 : F 3 ≤ p) => ?_) (fun (c5 : ¬ (F 3 ≤ p)) => ?_)
    · refine R_s (P := True) (f' := (17, [some (vR 2), some (vI p)], [vI 0], LAY (shA A) (shF F), 0, 0)) hc5 1 rfl trivial ?_
      refine R_retz hc5 rfl rfl (Or.inl rfl) ?_
      refine R_s (f' := (20, [some (vR 1), some (vI 2), some (vI p), some (vI g), some (vR 38), none, none, none, none, none], [vI 0], LAY (shA A) (shF F), 0, 0)) hc80 0 rfl trivial ?_
      refine R_if (t := 30) hc80 rfl rfl (fun (z : ¬ 0 = 0) => absurd z (by decide)) (fun (_ : ¬ (¬ 0 = 0)) => ?_)
      refine R_s (P := True) (f' := (26, [some (vR 1), some (vI 2), some (vI p), some (vI g), some (vR 38), none, none, none, none, none], [vI (-3), vR 1], LAY (shA A) (shF F), 0, 0)) hc80 2 rfl trivial ?_
      refine R_cv hc80 rfl rfl ?_ (fun r G h => h)
      refine R_s (P := True) (f' := (3, [some (vR 1), some (vI (-3))], [vI (-2), vI (-3)], LAY (shA A) (shF F), 0, 0)) hc93 2 rfl trivial ?_
      refine R_ic (t := 23) hc93 rfl rfl (fun (z : (-2) < (-3)) => absurd z (by decide)) (fun (_ : ¬ ((-2) < (-3))) => ?_)
      refine R_s (P := True) (f' := (9, [some (vR 1), some (vI (-3))], [vI (-8), vI (-3)], LAY (shA A) (shF F), 0, 0)) hc93 2 rfl trivial ?_
      refine R_ic (t := 23) hc93 rfl rfl (fun (z : (-3) < (-8)) => absurd z (by decide)) (fun (_ : ¬ ((-3) < (-8))) => ?_)
      refine R_s (P := inI 3 ∧ (0 ≤ 3 ∧ 3 < ((A 87).length : Int)) ∧ inI ((rd (A 87) 3) + 1) ∧ (0 ≤ 3 ∧ 3 < ((A 87).length : Int)) ∧ True) (f' := (24, [some (vR 1), some (vI (-3))], [vI (-3)], LAY (u (shA A) 87 (wr (A 87) 3 ((rd (A 87) 3) + 1))) (shF F), 0, 0)) hc93 10 rfl ⟨⟨by omega, by omega⟩, ⟨by omega, by omega⟩, ⟨by omega, by omega⟩, ⟨by omega, by omega⟩, trivial⟩ ?_
      refine R_reti hc93 rfl rfl ?_
      refine R_s (f' := (29, [some (vR 1), some (vI 2), some (vI p), some (vI g), some (vR 38), none, none, none, none, none], [vI (-3)], LAY (u (shA A) 87 (wr (A 87) 3 ((rd (A 87) 3) + 1))) (shF F), 0, 0)) hc80 0 rfl trivial ?_
      refine R_reti hc80 rfl rfl ⟨⟨_, rfl⟩, ⟨_, _, rfl, rfl⟩, ?_⟩
      refine R_s (P := True) (f' := (2, [some (vR 88), some (vI 2), some (vI p), some (vI g), none, none, none, none, none, none], [vI 2, vR 88], LAY (u (shA A) 87 (wr (A 87) 3 ((rd (A 87) 3) + 1))) (shF F), 0, 0)) hc154 2 rfl trivial ?_
      refine R_cv hc154 rfl rfl ?_ (fun r G h => h)
      refine R_s (P := inI ((F 0) - 1) ∧ True) (f' := (8, [some (vR 88), some (vI 2)], [vI ((F 0) - 1), vI 0, vI 2], LAY (u (shA A) 87 (wr (A 87) 3 ((rd (A 87) 3) + 1))) (shF F), 0, 0)) hc108 6 rfl ⟨⟨by omega, by omega⟩, trivial⟩ ?_
      refine R_cs hc108 rfl rfl ?_ (fun r G h => h)
      refine R_s (P := True) (f' := (2, [some (vI 2), some (vI 0), some (vI ((F 0) - 1))], [vI 0, vI 2], LAY (u (shA A) 87 (wr (A 87) 3 ((rd (A 87) 3) + 1))) (shF F), 0, 0)) hc104 2 rfl trivial ?_
      refine R_ic (t := 14) hc104 rfl rfl (fun (z : 2 < 0) => absurd z (by decide)) (fun (_ : ¬ (2 < 0)) => ?_)
      refine R_s (P := True) (f' := (7, [some (vI 2), some (vI 0), some (vI ((F 0) - 1))], [vI ((F 0) - 1), vI 2], LAY (u (shA A) 87 (wr (A 87) 3 ((rd (A 87) 3) + 1))) (shF F), 0, 0)) hc104 2 rfl trivial ?_
      refine R_ic (t := 14) hc104 rfl rfl (fun (z : (F 0) - 1 < 2) => absurd z (by omega)) (fun (_ : ¬ ((F 0) - 1 < 2)) => ?_)
      refine R_s (P := True) (f' := (15, [some (vI 2), some (vI 0), some (vI ((F 0) - 1))], [vI 1], LAY (u (shA A) 87 (wr (A 87) 3 ((rd (A 87) 3) + 1))) (shF F), 0, 0)) hc104 2 rfl trivial ?_
      refine R_retz hc104 rfl rfl (Or.inr rfl) ?_
      refine R_s (f' := (11, [some (vR 88), some (vI 2)], [vI 1], LAY (u (shA A) 87 (wr (A 87) 3 ((rd (A 87) 3) + 1))) (shF F), 0, 0)) hc108 0 rfl trivial ?_
      refine R_retz hc108 rfl rfl (Or.inr rfl) ?_
      refine R_s (f' := (5, [some (vR 88), some (vI 2), some (vI p), some (vI g), none, none, none, none, none, none], [vI 1], LAY (u (shA A) 87 (wr (A 87) 3 ((rd (A 87) 3) + 1))) (shF F), 0, 0)) hc154 0 rfl trivial ?_
      refine R_if (t := 16) hc154 rfl rfl (fun (z : 1 = 0) => absurd z (by decide)) (fun (_ : ¬ (1 = 0)) => ?_)
      refine R_s (P := True) (f' := (10, [some (vR 88), some (vI 2), some (vI p), some (vI g), none, none, none, none, none, none], [vI p, vR 88], LAY (u (shA A) 87 (wr (A 87) 3 ((rd (A 87) 3) + 1))) (shF F), 0, 0)) hc154 2 rfl trivial ?_
      refine R_cv hc154 rfl rfl ?_ (fun r G h => h)
      refine R_s (P := inI ((F 3) - 1) ∧ True) (f' := (8, [some (vR 88), some (vI p)], [vI ((F 3) - 1), vI 0, vI p], LAY (u (shA A) 87 (wr (A 87) 3 ((rd (A 87) 3) + 1))) (shF F), 0, 0)) hc106 6 rfl ⟨⟨by omega, by omega⟩, trivial⟩ ?_
      refine R_cs hc106 rfl rfl ?_ (fun r G h => h)
      refine R_s (P := True) (f' := (2, [some (vI p), some (vI 0), some (vI ((F 3) - 1))], [vI 0, vI p], LAY (u (shA A) 87 (wr (A 87) 3 ((rd (A 87) 3) + 1))) (shF F), 0, 0)) hc104 2 rfl trivial ?_
      refine R_ic (t := 14) hc104 rfl rfl (fun (z : p < 0) => absurd z (by omega)) (fun (_ : ¬ (p < 0)) => ?_)
      refine R_s (P := True) (f' := (7, [some (vI p), some (vI 0), some (vI ((F 3) - 1))], [vI ((F 3) - 1), vI p], LAY (u (shA A) 87 (wr (A 87) 3 ((rd (A 87) 3) + 1))) (shF F), 0, 0)) hc104 2 rfl trivial ?_
      refine R_ic (t := 14) hc104 rfl rfl (fun (_ : (F 3) - 1 < p) => ?_) (fun (z : ¬ ((F 3) - 1 < p)) => absurd (show (F 3) - 1 < p by omega) z)
      refine R_s (P := True) (f' := (15, [some (vI p), some (vI 0), some (vI ((F 3) - 1))], [vI 0], LAY (u (shA A) 87 (wr (A 87) 3 ((rd (A 87) 3) + 1))) (shF F), 0, 0)) hc104 1 rfl trivial ?_
      refine R_retz hc104 rfl rfl (Or.inl rfl) ?_
      refine R_s (f' := (11, [some (vR 88), some (vI p)], [vI 0], LAY (u (shA A) 87 (wr (A 87) 3 ((rd (A 87) 3) + 1))) (shF F), 0, 0)) hc106 0 rfl trivial ?_
      refine R_retz hc106 rfl rfl (Or.inl rfl) ?_
      refine R_s (f' := (13, [some (vR 88), some (vI 2), some (vI p), some (vI g), none, none, none, none, none, none], [vI 0], LAY (u (shA A) 87 (wr (A 87) 3 ((rd (A 87) 3) + 1))) (shF F), 0, 0)) hc154 0 rfl trivial ?_
      refine R_if (t := 23) hc154 rfl rfl (fun (z : ¬ 0 = 0) => absurd z (by decide)) (fun (_ : ¬ (¬ 0 = 0)) => ?_)
      refine R_s (P := True) (f' := (19, [some (vR 88), some (vI 2), some (vI p), some (vI g), none, none, none, none, none, none], [vI (-3), vR 88], LAY (u (shA A) 87 (wr (A 87) 3 ((rd (A 87) 3) + 1))) (shF F), 0, 0)) hc154 2 rfl trivial ?_
      refine R_cv hc154 rfl rfl ?_ (fun r G h => h)
      refine R_s (P := inI 3 ∧ (0 ≤ 3 ∧ 3 < ((A 87).length : Int)) ∧ inI ((rd (A 87) 3) + 1) ∧ (0 ≤ 3 ∧ 3 < ((A 87).length : Int)) ∧ True) (f' := (12, [some (vR 88), some (vI (-3))], [vI (-3)], LAY (u (u (shA A) 87 (wr (A 87) 3 ((rd (A 87) 3) + 1))) 89 (wr (A 87) 3 ((rd (A 87) 3) + 1))) (shF F), 0, 0)) hc105 10 rfl ⟨⟨by omega, by omega⟩, ⟨by omega, by omega⟩, ⟨by omega, by omega⟩, ⟨by omega, by omega⟩, trivial⟩ ?_
      refine R_reti hc105 rfl rfl ?_
      refine R_s (f' := (22, [some (vR 88), some (vI 2), some (vI p), some (vI g), none, none, none, none, none, none], [vI (-3)], LAY (u (u (shA A) 87 (wr (A 87) 3 ((rd (A 87) 3) + 1))) 89 (wr (A 87) 3 ((rd (A 87) 3) + 1))) (shF F), 0, 0)) hc154 0 rfl trivial ?_
      refine R_reti hc154 rfl rfl ?_
      first
        | (exfalso; omega; done)
        | exact ⟨rfl, (u A 87 (wr (A 87) 3 ((rd (A 87) 3) + 1))), F, rfl, rfl, REL_ref hR0 (by decide) (by decide)⟩
    · refine R_s (P := True) (f' := (17, [some (vR 2), some (vI p)], [vI 1], LAY (shA A) (shF F), 0, 0)) hc5 2 rfl trivial ?_
      refine R_retz hc5 rfl rfl (Or.inr rfl) ?_
      refine R_s (f' := (20, [some (vR 1), some (vI 2), some (vI p), some (vI g), some (vR 38), none, none, none, none, none], [vI 1], LAY (shA A) (shF F), 0, 0)) hc80 0 rfl trivial ?_
      refine R_if (t := 30) hc80 rfl rfl (fun (_ : ¬ 1 = 0) => ?_) (fun (z : ¬ (¬ 1 = 0)) => absurd (by decide) z)
      refine R_s (P := True) (f' := (35, [some (vR 1), some (vI 2), some (vI p), some (vI g), some (vR 38), none, none, none, none, none], [vI 2, vR 12], LAY (shA A) (shF F), 0, 0)) hc80 3 rfl trivial ?_
      refine R_cv hc80 rfl rfl (l_yieldC (A := (shA A)) (F := (shF F)) (LENS_sh hL) ⟨t1, t2⟩ 2 (by decide) (fun i hi => R_prod hR0 (d := 2) (by decide) i hi)) (fun r G9 hp9 => ?_)
      obtain ⟨e1, rfl⟩ := hp9
      have e2 : r = some (vI (N_Y A F 2)) := e1
      clear e1
      subst e2
      refine R_s (f' := (38, [some (vR 1), some (vI 2), some (vI p), some (vI g), some (vR 38), none, none, none, none, none], [vI (N_Y A F 2)], LAY (shA A) (shF F), 0, 0)) hc80 0 rfl trivial ?_
      refine R_s (P := True) (f' := (49, [some (vR 1), some (vI 2), some (vI p), some (vI g), some (vR 38), some (vI (N_Y A F 2)), none, none, none, none], [vI (F 2), vR 2, vI 1], LAY (shA A) (shF F), 0, 0)) hc80 6 rfl trivial ?_
      refine R_cv hc80 rfl rfl (l_doubtful (A := (shA A)) (F := (shF F)) (n := (F 3).toNat) (LENS_sh hL) (R_n hR0) (R_n30 hR0) (yr := F 2)) (fun r G9 hp9 => ?_)
      obtain ⟨rfl, rfl⟩ := hp9
      refine R_s (f' := (52, [some (vR 1), some (vI 2), some (vI p), some (vI g), some (vR 38), some (vI (N_Y A F 2)), none, none, none, none], [vI ((rk (F 2) (A 4) (A 6) (F 3).toNat : Nat) : Int), vI 1], LAY (shA A) (shF F), 0, 0)) hc80 0 rfl trivial ?_
      refine R_s (P := (0 ≤ ((rk (F 2) (A 4) (A 6) (F 3).toNat : Nat) : Int) ∧ ((rk (F 2) (A 4) (A 6) (F 3).toNat : Nat) : Int) < 31 ∧ 0 ≤ 1 ∧ 1 * 2 ^ (((rk (F 2) (A 4) (A 6) (F 3).toNat : Nat) : Int) : Int).toNat ≤ 2147483647) ∧ True) (f' := (61, [some (vR 1), some (vI 2), some (vI p), some (vI g), some (vR 38), some (vI (N_Y A F 2)), some (vI (1 * 2 ^ (((rk (F 2) (A 4) (A 6) (F 3).toNat : Nat) : Int) : Int).toNat)), some (vI 0), some (vI 0), none], [], LAY (shA A) (shF F), 0, 0)) hc80 6 rfl ⟨⟨by omega, by omega, by omega, by (rw [Int.toNat_natCast, Int.one_mul]; have z2 : ((2 ^ rk (F 2) (A 4) (A 6) (F 3).toNat : Nat) : Int) ≤ 32 := (by omega); push_cast at z2; omega)⟩, trivial⟩ ?_
      refine bound_C2 hR0 hd (p := p) (g := g) ⟨by omega, by omega⟩ rfl (by rw [Int.toNat_natCast, Int.one_mul]; push_cast; rfl) (fun b x v9 l8 l9 l10 l11 l75 l76 l77 l78 k8 k9 k10 k11 k75 k76 k77 k78 v14 v15 hB => ?_)
      refine R_s (P := True) (f' := (149, [some (vR 1), some (vI 2), some (vI p), some (vI g), some (vR 38), some (vI (N_Y A F 2)), some (vI (1 * 2 ^ (((rk (F 2) (A 4) (A 6) (F 3).toNat : Nat) : Int) : Int).toNat)), some (vI b), some (vI x), v9], [vI b], LAY (u (u (u (u (u (u (u (u (shA A) 8 l8) 9 l9) 10 l10) 11 l11) 75 l75) 76 l76) 77 l77) 78 l78) (u (u (shF F) 14 v14) 15 v15), 0, 0)) hc80 1 rfl trivial ?_
      refine R_reti hc80 rfl rfl ⟨⟨_, rfl⟩, ⟨_, _, rfl, rfl⟩, ?_⟩
      refine R_s (P := True) (f' := (2, [some (vR 88), some (vI 2), some (vI p), some (vI g), none, none, none, none, none, none], [vI 2, vR 88], LAY (u (u (u (u (u (u (u (u (shA A) 8 l8) 9 l9) 10 l10) 11 l11) 75 l75) 76 l76) 77 l77) 78 l78) (u (u (shF F) 14 v14) 15 v15), 0, 0)) hc154 2 rfl trivial ?_
      refine R_cv hc154 rfl rfl ?_ (fun r G h => h)
      refine R_s (P := inI ((F 0) - 1) ∧ True) (f' := (8, [some (vR 88), some (vI 2)], [vI ((F 0) - 1), vI 0, vI 2], LAY (u (u (u (u (u (u (u (u (shA A) 8 l8) 9 l9) 10 l10) 11 l11) 75 l75) 76 l76) 77 l77) 78 l78) (u (u (shF F) 14 v14) 15 v15), 0, 0)) hc108 6 rfl ⟨⟨by omega, by omega⟩, trivial⟩ ?_
      refine R_cs hc108 rfl rfl ?_ (fun r G h => h)
      refine R_s (P := True) (f' := (2, [some (vI 2), some (vI 0), some (vI ((F 0) - 1))], [vI 0, vI 2], LAY (u (u (u (u (u (u (u (u (shA A) 8 l8) 9 l9) 10 l10) 11 l11) 75 l75) 76 l76) 77 l77) 78 l78) (u (u (shF F) 14 v14) 15 v15), 0, 0)) hc104 2 rfl trivial ?_
      refine R_ic (t := 14) hc104 rfl rfl (fun (z : 2 < 0) => absurd z (by decide)) (fun (_ : ¬ (2 < 0)) => ?_)
      refine R_s (P := True) (f' := (7, [some (vI 2), some (vI 0), some (vI ((F 0) - 1))], [vI ((F 0) - 1), vI 2], LAY (u (u (u (u (u (u (u (u (shA A) 8 l8) 9 l9) 10 l10) 11 l11) 75 l75) 76 l76) 77 l77) 78 l78) (u (u (shF F) 14 v14) 15 v15), 0, 0)) hc104 2 rfl trivial ?_
      refine R_ic (t := 14) hc104 rfl rfl (fun (z : (F 0) - 1 < 2) => absurd z (by omega)) (fun (_ : ¬ ((F 0) - 1 < 2)) => ?_)
      refine R_s (P := True) (f' := (15, [some (vI 2), some (vI 0), some (vI ((F 0) - 1))], [vI 1], LAY (u (u (u (u (u (u (u (u (shA A) 8 l8) 9 l9) 10 l10) 11 l11) 75 l75) 76 l76) 77 l77) 78 l78) (u (u (shF F) 14 v14) 15 v15), 0, 0)) hc104 2 rfl trivial ?_
      refine R_retz hc104 rfl rfl (Or.inr rfl) ?_
      refine R_s (f' := (11, [some (vR 88), some (vI 2)], [vI 1], LAY (u (u (u (u (u (u (u (u (shA A) 8 l8) 9 l9) 10 l10) 11 l11) 75 l75) 76 l76) 77 l77) 78 l78) (u (u (shF F) 14 v14) 15 v15), 0, 0)) hc108 0 rfl trivial ?_
      refine R_retz hc108 rfl rfl (Or.inr rfl) ?_
      refine R_s (f' := (5, [some (vR 88), some (vI 2), some (vI p), some (vI g), none, none, none, none, none, none], [vI 1], LAY (u (u (u (u (u (u (u (u (shA A) 8 l8) 9 l9) 10 l10) 11 l11) 75 l75) 76 l76) 77 l77) 78 l78) (u (u (shF F) 14 v14) 15 v15), 0, 0)) hc154 0 rfl trivial ?_
      refine R_if (t := 16) hc154 rfl rfl (fun (z : 1 = 0) => absurd z (by decide)) (fun (_ : ¬ (1 = 0)) => ?_)
      refine R_s (P := True) (f' := (10, [some (vR 88), some (vI 2), some (vI p), some (vI g), none, none, none, none, none, none], [vI p, vR 88], LAY (u (u (u (u (u (u (u (u (shA A) 8 l8) 9 l9) 10 l10) 11 l11) 75 l75) 76 l76) 77 l77) 78 l78) (u (u (shF F) 14 v14) 15 v15), 0, 0)) hc154 2 rfl trivial ?_
      refine R_cv hc154 rfl rfl ?_ (fun r G h => h)
      refine R_s (P := inI ((F 3) - 1) ∧ True) (f' := (8, [some (vR 88), some (vI p)], [vI ((F 3) - 1), vI 0, vI p], LAY (u (u (u (u (u (u (u (u (shA A) 8 l8) 9 l9) 10 l10) 11 l11) 75 l75) 76 l76) 77 l77) 78 l78) (u (u (shF F) 14 v14) 15 v15), 0, 0)) hc106 6 rfl ⟨⟨by omega, by omega⟩, trivial⟩ ?_
      refine R_cs hc106 rfl rfl ?_ (fun r G h => h)
      refine R_s (P := True) (f' := (2, [some (vI p), some (vI 0), some (vI ((F 3) - 1))], [vI 0, vI p], LAY (u (u (u (u (u (u (u (u (shA A) 8 l8) 9 l9) 10 l10) 11 l11) 75 l75) 76 l76) 77 l77) 78 l78) (u (u (shF F) 14 v14) 15 v15), 0, 0)) hc104 2 rfl trivial ?_
      refine R_ic (t := 14) hc104 rfl rfl (fun (z : p < 0) => absurd z (by omega)) (fun (_ : ¬ (p < 0)) => ?_)
      refine R_s (P := True) (f' := (7, [some (vI p), some (vI 0), some (vI ((F 3) - 1))], [vI ((F 3) - 1), vI p], LAY (u (u (u (u (u (u (u (u (shA A) 8 l8) 9 l9) 10 l10) 11 l11) 75 l75) 76 l76) 77 l77) 78 l78) (u (u (shF F) 14 v14) 15 v15), 0, 0)) hc104 2 rfl trivial ?_
      refine R_ic (t := 14) hc104 rfl rfl (fun (z : (F 3) - 1 < p) => absurd z (by omega)) (fun (_ : ¬ ((F 3) - 1 < p)) => ?_)
      refine R_s (P := True) (f' := (15, [some (vI p), some (vI 0), some (vI ((F 3) - 1))], [vI 1], LAY (u (u (u (u (u (u (u (u (shA A) 8 l8) 9 l9) 10 l10) 11 l11) 75 l75) 76 l76) 77 l77) 78 l78) (u (u (shF F) 14 v14) 15 v15), 0, 0)) hc104 2 rfl trivial ?_
      refine R_retz hc104 rfl rfl (Or.inr rfl) ?_
      refine R_s (f' := (11, [some (vR 88), some (vI p)], [vI 1], LAY (u (u (u (u (u (u (u (u (shA A) 8 l8) 9 l9) 10 l10) 11 l11) 75 l75) 76 l76) 77 l77) 78 l78) (u (u (shF F) 14 v14) 15 v15), 0, 0)) hc106 0 rfl trivial ?_
      refine R_retz hc106 rfl rfl (Or.inr rfl) ?_
      refine R_s (f' := (13, [some (vR 88), some (vI 2), some (vI p), some (vI g), none, none, none, none, none, none], [vI 1], LAY (u (u (u (u (u (u (u (u (shA A) 8 l8) 9 l9) 10 l10) 11 l11) 75 l75) 76 l76) 77 l77) 78 l78) (u (u (shF F) 14 v14) 15 v15), 0, 0)) hc154 0 rfl trivial ?_
      refine R_if (t := 23) hc154 rfl rfl (fun (_ : ¬ 1 = 0) => ?_) (fun (z : ¬ (¬ 1 = 0)) => absurd (by decide) z)
      refine R_mono (bound_M hR0 (A0 := (u (u (u (u (u (u (u (u (shA A) 8 l8) 9 l9) 10 l10) 11 l11) 75 l75) 76 l76) 77 l77) 78 l78)) (F0 := (u (u (shF F) 14 v14) 15 v15)) rfl rfl rfl rfl rfl rfl rfl rfl rfl rfl rfl rfl rfl rfl (hL 109 (by decide)) (hL 104 (by decide)) (hL 105 (by decide)) (hL 110 (by decide)) (hL 111 (by decide)) (hL 108 (by decide)) (hL 107 (by decide)) hD.1 hD.2 rfl (p := p) (g := g) ⟨by omega, by omega⟩) (fun r8 G8 hp8 => ?_)
      obtain ⟨b2, l109, l104, l105, l110, l111, l108, l107, v28, v29, v30, v31, rfl, hB2, rfl, k109, k104, k105, k110, k111, k108, k107⟩ := hp8
      have e8 : b2 = b := BEST_eq hB hB2 (fun i _ => by
        obtain ⟨w1, h1, h2⟩ := way_CM (A := A) (F := F) i
        exact ⟨w1, h1, by unfold vW; rw [h2]⟩) (fun j _ => by
        obtain ⟨w1, h1, h2⟩ := way_MC (A := A) (F := F) j
        exact ⟨w1, h1, by unfold vW; rw [h2]⟩)
      first
        | (exfalso; omega; done)
        | exact ⟨(by rw [show b2 = b by omega]), (u (u (u (u (u (u (u (u (u (u (u (u (u (u (u A 8 l8) 9 l9) 10 l10) 11 l11) 75 l75) 76 l76) 77 l77) 78 l78) 109 l109) 104 l104) 105 l105) 110 l110) 111 l111) 108 l108) 107 l107), (u (u (u (u (u (u F 14 v14) 15 v15) 28 v28) 29 v29) 30 v30) 31 v31), rfl, rfl, ⟨(LENS_u (LENS_u (LENS_u (LENS_u (LENS_u (LENS_u (LENS_u (LENS_u (LENS_u (LENS_u (LENS_u (LENS_u (LENS_u (LENS_u (LENS_u hL (by show (l8).length = (A 8).length; rw [k8, hL 8 (by decide)]; rfl)) (by show (l9).length = (A 9).length; rw [k9, hL 9 (by decide)]; rfl)) (by show (l10).length = (A 10).length; rw [k10, hL 10 (by decide)]; rfl)) (by show (l11).length = (A 11).length; rw [k11, hL 11 (by decide)]; rfl)) (by show (l75).length = (A 75).length; rw [k75, hL 75 (by decide)]; rfl)) (by show (l76).length = (A 76).length; rw [k76, hL 76 (by decide)]; rfl)) (by show (l77).length = (A 77).length; rw [k77, hL 77 (by decide)]; rfl)) (by show (l78).length = (A 78).length; rw [k78, hL 78 (by decide)]; rfl)) (by show (l109).length = (A 109).length; rw [k109, hL 109 (by decide)]; rfl)) (by show (l104).length = (A 104).length; rw [k104, hL 104 (by decide)]; rfl)) (by show (l105).length = (A 105).length; rw [k105, hL 105 (by decide)]; rfl)) (by show (l110).length = (A 110).length; rw [k110, hL 110 (by decide)]; rfl)) (by show (l111).length = (A 111).length; rw [k111, hL 111 (by decide)]; rfl)) (by show (l108).length = (A 108).length; rw [k108, hL 108 (by decide)]; rfl)) (by show (l107).length = (A 107).length; rw [k107, hL 107 (by decide)]; rfl)), hR0.2.1, hR0.2.2.1, hR0.2.2.2.1, hR0.2.2.2.2.1, hR0.2.2.2.2.2.1, hR0.2.2.2.2.2.2.1, hR0.2.2.2.2.2.2.2.1, hR0.2.2.2.2.2.2.2.2.1, (REFU_c hR0.2.2.2.2.2.2.2.2.2)⟩⟩

theorem op_bound_3 {c : Int} {A : Nat → List Int} {F : Nat → Int} (hR : REL c A F) (hc : c < 512) (p g : Int) (i_p : inI p) (i_g : inI g) (hd : (3 : Int) < F 0) (hx : g = 0 ∨ g = 1) : R 80 (0, L0 80 [vR 1, vI 3, vI p, vI g], [], LAY (shA A) (shF F), 0, 0) (fun r G => (∃ x, r = some (vI x)) ∧ (∃ (A1 : Nat → List Int) (F1 : Nat → Int), G = LAY A1 F1 ∧ A1 0 = A 0) ∧ R 154 (0, L0 154 [vR 88, vI 3, vI p, vI g], [], G, 0, 0) (fun r2 G2 => r2 = r ∧ ∃ (A' : Nat → List Int) (F' : Nat → Int), G2 = LAY (shA A') (shF F') ∧ A' 0 = A 0 ∧ REL (c + 1) A' F')) := by
  have hR0 := hR
  obtain ⟨hL, hPE, hTH, hTP, hDE, hLE, hNO, hAC, hRO, hRE⟩ := hR
  have j_p := i_p
  unfold inI at j_p
  have j_g := i_g
  unfold inI at j_g
  have h87 : (A 87).length = 9 := hL 87 (by decide)
  have h99 : (A 99).length = 6 := hL 99 (by decide)
  have r2 := REFU_at hRE (k := 2) (by decide) (by decide) hc
  have r3 := REFU_at hRE (k := 3) (by decide) (by decide) hc
  have r4 := REFU_at hRE (k := 4) (by decide) (by decide) hc
  have r5 := REFU_at hRE (k := 5) (by decide) (by decide) hc
  have r6 := REFU_at hRE (k := 6) (by decide) (by decide) hc
  have r7 := REFU_at hRE (k := 7) (by decide) (by decide) hc
  have r8 := REFU_at hRE (k := 8) (by decide) (by decide) hc
  obtain ⟨t1, t2, t3, t4, t5, t6⟩ := hTH
  obtain ⟨p1, p2, p3, p4, p5, p6⟩ := hPE
  have hD := D_at3 hR0 hd
  have he1 := hD.1.1
  have he2 := hD.1.2.1
  have hme : rd (A 99) 3 = F 11 := by
    have := hD.2.2.2.2.1
    omega
  obtain ⟨so, te, tp, mg, pm, lo, hS⟩ := SPL_ex A F (N_al A F) (N_Q A 48) (F 11).toNat (N_Y A F 3)
  have hk5 : rk (F 2) (A 4) (A 6) (F 3).toNat ≤ 5 := Nat.le_trans (rk_ck (F 2) (A 4) (A 6) (F 3).toNat) (ck5 hR0)
  have h32 := pow_le5 hk5
  refine R_s (P := True) (f' := (2, [some (vR 1), some (vI 3), some (vI p), some (vI g), none, none, none, none, none, none], [vI 3, vR 1], LAY (shA A) (shF F), 0, 0)) hc80 2 rfl trivial ?_
  refine R_cv hc80 rfl rfl ?_ (fun r G h => h)
  refine R_s (P := True) (f' := (2, [some (vR 1), some (vI 3)], [vI 3, vR 1], LAY (shA A) (shF F), 0, 0)) hc99 2 rfl trivial ?_
  refine R_cv hc99 rfl rfl ?_ (fun r G h => h)
  refine R_s (P := True) (f' := (1, [some (vR 1), some (vI 3)], [vI 3], LAY (shA A) (shF F), 0, 0)) hc98 1 rfl trivial ?_
  refine R_if (t := 16) hc98 rfl rfl (fun (z : 3 < 0) => absurd z (by decide)) (fun (_ : ¬ (3 < 0)) => ?_)
  refine R_s (P := True) (f' := (9, [some (vR 1), some (vI 3)], [vI (F 0), vI 3], LAY (shA A) (shF F), 0, 0)) hc98 3 rfl trivial ?_
  refine R_ic (t := 16) hc98 rfl rfl (fun (z : F 0 ≤ 3) => absurd z (by omega)) (fun (_ : ¬ (F 0 ≤ 3)) => ?_)
  refine R_s (P := True) (f' := (17, [some (vR 1), some (vI 3)], [vI 1], LAY (shA A) (shF F), 0, 0)) hc98 2 rfl trivial ?_
  refine R_retz hc98 rfl rfl (Or.inr rfl) ?_
  refine R_s (f' := (5, [some (vR 1), some (vI 3)], [vI 1], LAY (shA A) (shF F), 0, 0)) hc99 0 rfl trivial ?_
  refine R_if (t := 17) hc99 rfl rfl (fun (z : 1 = 0) => absurd z (by decide)) (fun (_ : ¬ (1 = 0)) => ?_)
  refine R_s (P := (0 ≤ (3 : Int) ∧ (3 : Int) < (([some 20, some 29, some 38, some 47, some 56, some 65] : List (Option Nat)).length : Int)) ∧ True) (f' := (18, [some (vR 1), some (vI 3)], [vR 47], LAY (shA A) (shF F), 0, 0)) hc99 5 rfl ⟨(by decide), trivial⟩ ?_
  refine R_reta hc99 rfl rfl ?_
  refine R_s (f' := (5, [some (vR 1), some (vI 3), some (vI p), some (vI g), none, none, none, none, none, none], [vR 47], LAY (shA A) (shF F), 0, 0)) hc80 0 rfl trivial ?_
  refine R_s (P := True) (f' := (17, [some (vR 1), some (vI 3), some (vI p), some (vI g), some (vR 47), none, none, none, none, none], [vI p, vR 2], LAY (shA A) (shF F), 0, 0)) hc80 6 rfl trivial ?_
  refine R_cv hc80 rfl rfl ?_ (fun r G h => h)
  refine R_s (P := True) (f' := (1, [some (vR 2), some (vI p)], [vI p], LAY (shA A) (shF F), 0, 0)) hc5 1 rfl trivial ?_
  refine R_if (t := 16) hc5 rfl rfl (fun (c4 : p < 0) => ?_) (fun (c4 : ¬ (p < 0)) => ?_)
  · refine R_s (P := True) (f' := (17, [some (vR 2), some (vI p)], [vI 0], LAY (shA A) (shF F), 0, 0)) hc5 1 rfl trivial ?_
    refine R_retz hc5 rfl rfl (Or.inl rfl) ?_
    refine R_s (f' := (20, [some (vR 1), some (vI 3), some (vI p), some (vI g), some (vR 47), none, none, none, none, none], [vI 0], LAY (shA A) (shF F), 0, 0)) hc80 0 rfl trivial ?_
    refine R_if (t := 30) hc80 rfl rfl (fun (z : ¬ 0 = 0) => absurd z (by decide)) (fun (_ : ¬ (¬ 0 = 0)) => ?_)
    refine R_s (P := True) (f' := (26, [some (vR 1), some (vI 3), some (vI p), some (vI g), some (vR 47), none, none, none, none, none], [vI (-3), vR 1], LAY (shA A) (shF F), 0, 0)) hc80 2 rfl trivial ?_
    refine R_cv hc80 rfl rfl ?_ (fun r G h => h)
    refine R_s (P := True) (f' := (3, [some (vR 1), some (vI (-3))], [vI (-2), vI (-3)], LAY (shA A) (shF F), 0, 0)) hc93 2 rfl trivial ?_
    refine R_ic (t := 23) hc93 rfl rfl (fun (z : (-2) < (-3)) => absurd z (by decide)) (fun (_ : ¬ ((-2) < (-3))) => ?_)
    refine R_s (P := True) (f' := (9, [some (vR 1), some (vI (-3))], [vI (-8), vI (-3)], LAY (shA A) (shF F), 0, 0)) hc93 2 rfl trivial ?_
    refine R_ic (t := 23) hc93 rfl rfl (fun (z : (-3) < (-8)) => absurd z (by decide)) (fun (_ : ¬ ((-3) < (-8))) => ?_)
    refine R_s (P := inI 3 ∧ (0 ≤ 3 ∧ 3 < ((A 87).length : Int)) ∧ inI ((rd (A 87) 3) + 1) ∧ (0 ≤ 3 ∧ 3 < ((A 87).length : Int)) ∧ True) (f' := (24, [some (vR 1), some (vI (-3))], [vI (-3)], LAY (u (shA A) 87 (wr (A 87) 3 ((rd (A 87) 3) + 1))) (shF F), 0, 0)) hc93 10 rfl ⟨⟨by omega, by omega⟩, ⟨by omega, by omega⟩, ⟨by omega, by omega⟩, ⟨by omega, by omega⟩, trivial⟩ ?_
    refine R_reti hc93 rfl rfl ?_
    refine R_s (f' := (29, [some (vR 1), some (vI 3), some (vI p), some (vI g), some (vR 47), none, none, none, none, none], [vI (-3)], LAY (u (shA A) 87 (wr (A 87) 3 ((rd (A 87) 3) + 1))) (shF F), 0, 0)) hc80 0 rfl trivial ?_
    refine R_reti hc80 rfl rfl ⟨⟨_, rfl⟩, ⟨_, _, rfl, rfl⟩, ?_⟩
    refine R_s (P := True) (f' := (2, [some (vR 88), some (vI 3), some (vI p), some (vI g), none, none, none, none, none, none], [vI 3, vR 88], LAY (u (shA A) 87 (wr (A 87) 3 ((rd (A 87) 3) + 1))) (shF F), 0, 0)) hc154 2 rfl trivial ?_
    refine R_cv hc154 rfl rfl ?_ (fun r G h => h)
    refine R_s (P := inI ((F 0) - 1) ∧ True) (f' := (8, [some (vR 88), some (vI 3)], [vI ((F 0) - 1), vI 0, vI 3], LAY (u (shA A) 87 (wr (A 87) 3 ((rd (A 87) 3) + 1))) (shF F), 0, 0)) hc108 6 rfl ⟨⟨by omega, by omega⟩, trivial⟩ ?_
    refine R_cs hc108 rfl rfl ?_ (fun r G h => h)
    refine R_s (P := True) (f' := (2, [some (vI 3), some (vI 0), some (vI ((F 0) - 1))], [vI 0, vI 3], LAY (u (shA A) 87 (wr (A 87) 3 ((rd (A 87) 3) + 1))) (shF F), 0, 0)) hc104 2 rfl trivial ?_
    refine R_ic (t := 14) hc104 rfl rfl (fun (z : 3 < 0) => absurd z (by decide)) (fun (_ : ¬ (3 < 0)) => ?_)
    refine R_s (P := True) (f' := (7, [some (vI 3), some (vI 0), some (vI ((F 0) - 1))], [vI ((F 0) - 1), vI 3], LAY (u (shA A) 87 (wr (A 87) 3 ((rd (A 87) 3) + 1))) (shF F), 0, 0)) hc104 2 rfl trivial ?_
    refine R_ic (t := 14) hc104 rfl rfl (fun (z : (F 0) - 1 < 3) => absurd z (by omega)) (fun (_ : ¬ ((F 0) - 1 < 3)) => ?_)
    refine R_s (P := True) (f' := (15, [some (vI 3), some (vI 0), some (vI ((F 0) - 1))], [vI 1], LAY (u (shA A) 87 (wr (A 87) 3 ((rd (A 87) 3) + 1))) (shF F), 0, 0)) hc104 2 rfl trivial ?_
    refine R_retz hc104 rfl rfl (Or.inr rfl) ?_
    refine R_s (f' := (11, [some (vR 88), some (vI 3)], [vI 1], LAY (u (shA A) 87 (wr (A 87) 3 ((rd (A 87) 3) + 1))) (shF F), 0, 0)) hc108 0 rfl trivial ?_
    refine R_retz hc108 rfl rfl (Or.inr rfl) ?_
    refine R_s (f' := (5, [some (vR 88), some (vI 3), some (vI p), some (vI g), none, none, none, none, none, none], [vI 1], LAY (u (shA A) 87 (wr (A 87) 3 ((rd (A 87) 3) + 1))) (shF F), 0, 0)) hc154 0 rfl trivial ?_
    refine R_if (t := 16) hc154 rfl rfl (fun (z : 1 = 0) => absurd z (by decide)) (fun (_ : ¬ (1 = 0)) => ?_)
    refine R_s (P := True) (f' := (10, [some (vR 88), some (vI 3), some (vI p), some (vI g), none, none, none, none, none, none], [vI p, vR 88], LAY (u (shA A) 87 (wr (A 87) 3 ((rd (A 87) 3) + 1))) (shF F), 0, 0)) hc154 2 rfl trivial ?_
    refine R_cv hc154 rfl rfl ?_ (fun r G h => h)
    refine R_s (P := inI ((F 3) - 1) ∧ True) (f' := (8, [some (vR 88), some (vI p)], [vI ((F 3) - 1), vI 0, vI p], LAY (u (shA A) 87 (wr (A 87) 3 ((rd (A 87) 3) + 1))) (shF F), 0, 0)) hc106 6 rfl ⟨⟨by omega, by omega⟩, trivial⟩ ?_
    refine R_cs hc106 rfl rfl ?_ (fun r G h => h)
    refine R_s (P := True) (f' := (2, [some (vI p), some (vI 0), some (vI ((F 3) - 1))], [vI 0, vI p], LAY (u (shA A) 87 (wr (A 87) 3 ((rd (A 87) 3) + 1))) (shF F), 0, 0)) hc104 2 rfl trivial ?_
    refine R_ic (t := 14) hc104 rfl rfl (fun (_ : p < 0) => ?_) (fun (z : ¬ (p < 0)) => absurd (show p < 0 by omega) z)
    refine R_s (P := True) (f' := (15, [some (vI p), some (vI 0), some (vI ((F 3) - 1))], [vI 0], LAY (u (shA A) 87 (wr (A 87) 3 ((rd (A 87) 3) + 1))) (shF F), 0, 0)) hc104 1 rfl trivial ?_
    refine R_retz hc104 rfl rfl (Or.inl rfl) ?_
    refine R_s (f' := (11, [some (vR 88), some (vI p)], [vI 0], LAY (u (shA A) 87 (wr (A 87) 3 ((rd (A 87) 3) + 1))) (shF F), 0, 0)) hc106 0 rfl trivial ?_
    refine R_retz hc106 rfl rfl (Or.inl rfl) ?_
    refine R_s (f' := (13, [some (vR 88), some (vI 3), some (vI p), some (vI g), none, none, none, none, none, none], [vI 0], LAY (u (shA A) 87 (wr (A 87) 3 ((rd (A 87) 3) + 1))) (shF F), 0, 0)) hc154 0 rfl trivial ?_
    refine R_if (t := 23) hc154 rfl rfl (fun (z : ¬ 0 = 0) => absurd z (by decide)) (fun (_ : ¬ (¬ 0 = 0)) => ?_)
    refine R_s (P := True) (f' := (19, [some (vR 88), some (vI 3), some (vI p), some (vI g), none, none, none, none, none, none], [vI (-3), vR 88], LAY (u (shA A) 87 (wr (A 87) 3 ((rd (A 87) 3) + 1))) (shF F), 0, 0)) hc154 2 rfl trivial ?_
    refine R_cv hc154 rfl rfl ?_ (fun r G h => h)
    refine R_s (P := inI 3 ∧ (0 ≤ 3 ∧ 3 < ((A 87).length : Int)) ∧ inI ((rd (A 87) 3) + 1) ∧ (0 ≤ 3 ∧ 3 < ((A 87).length : Int)) ∧ True) (f' := (12, [some (vR 88), some (vI (-3))], [vI (-3)], LAY (u (u (shA A) 87 (wr (A 87) 3 ((rd (A 87) 3) + 1))) 89 (wr (A 87) 3 ((rd (A 87) 3) + 1))) (shF F), 0, 0)) hc105 10 rfl ⟨⟨by omega, by omega⟩, ⟨by omega, by omega⟩, ⟨by omega, by omega⟩, ⟨by omega, by omega⟩, trivial⟩ ?_
    refine R_reti hc105 rfl rfl ?_
    refine R_s (f' := (22, [some (vR 88), some (vI 3), some (vI p), some (vI g), none, none, none, none, none, none], [vI (-3)], LAY (u (u (shA A) 87 (wr (A 87) 3 ((rd (A 87) 3) + 1))) 89 (wr (A 87) 3 ((rd (A 87) 3) + 1))) (shF F), 0, 0)) hc154 0 rfl trivial ?_
    refine R_reti hc154 rfl rfl ?_
    first
      | (exfalso; omega; done)
      | exact ⟨rfl, (u A 87 (wr (A 87) 3 ((rd (A 87) 3) + 1))), F, rfl, rfl, REL_ref hR0 (by decide) (by decide)⟩
  · refine R_s (P := True) (f' := (9, [some (vR 2), some (vI p)], [vI (F 3), vI p], LAY (shA A) (shF F), 0, 0)) hc5 3 rfl trivial ?_
    refine R_ic (t := 16) hc5 rfl rfl (fun (c5 : F 3 ≤ p) => ?_) (fun (c5 : ¬ (F 3 ≤ p)) => ?_)
    · refine R_s (P := True) (f' := (17, [some (vR 2), some (vI p)], [vI 0], LAY (shA A) (shF F), 0, 0)) hc5 1 rfl trivial ?_
      refine R_retz hc5 rfl rfl (Or.inl rfl) ?_
      refine R_s (f' := (20, [some (vR 1), some (vI 3), some (vI p), some (vI g), some (vR 47), none, none, none, none, none], [vI 0], LAY (shA A) (shF F), 0, 0)) hc80 0 rfl trivial ?_
      refine R_if (t := 30) hc80 rfl rfl (fun (z : ¬ 0 = 0) => absurd z (by decide)) (fun (_ : ¬ (¬ 0 = 0)) => ?_)
      refine R_s (P := True) (f' := (26, [some (vR 1), some (vI 3), some (vI p), some (vI g), some (vR 47), none, none, none, none, none], [vI (-3), vR 1], LAY (shA A) (shF F), 0, 0)) hc80 2 rfl trivial ?_
      refine R_cv hc80 rfl rfl ?_ (fun r G h => h)
      refine R_s (P := True) (f' := (3, [some (vR 1), some (vI (-3))], [vI (-2), vI (-3)], LAY (shA A) (shF F), 0, 0)) hc93 2 rfl trivial ?_
      refine R_ic (t := 23) hc93 rfl rfl (fun (z : (-2) < (-3)) => absurd z (by decide)) (fun (_ : ¬ ((-2) < (-3))) => ?_)
      refine R_s (P := True) (f' := (9, [some (vR 1), some (vI (-3))], [vI (-8), vI (-3)], LAY (shA A) (shF F), 0, 0)) hc93 2 rfl trivial ?_
      refine R_ic (t := 23) hc93 rfl rfl (fun (z : (-3) < (-8)) => absurd z (by decide)) (fun (_ : ¬ ((-3) < (-8))) => ?_)
      refine R_s (P := inI 3 ∧ (0 ≤ 3 ∧ 3 < ((A 87).length : Int)) ∧ inI ((rd (A 87) 3) + 1) ∧ (0 ≤ 3 ∧ 3 < ((A 87).length : Int)) ∧ True) (f' := (24, [some (vR 1), some (vI (-3))], [vI (-3)], LAY (u (shA A) 87 (wr (A 87) 3 ((rd (A 87) 3) + 1))) (shF F), 0, 0)) hc93 10 rfl ⟨⟨by omega, by omega⟩, ⟨by omega, by omega⟩, ⟨by omega, by omega⟩, ⟨by omega, by omega⟩, trivial⟩ ?_
      refine R_reti hc93 rfl rfl ?_
      refine R_s (f' := (29, [some (vR 1), some (vI 3), some (vI p), some (vI g), some (vR 47), none, none, none, none, none], [vI (-3)], LAY (u (shA A) 87 (wr (A 87) 3 ((rd (A 87) 3) + 1))) (shF F), 0, 0)) hc80 0 rfl trivial ?_
      refine R_reti hc80 rfl rfl ⟨⟨_, rfl⟩, ⟨_, _, rfl, rfl⟩, ?_⟩
      refine R_s (P := True) (f' := (2, [some (vR 88), some (vI 3), some (vI p), some (vI g), none, none, none, none, none, none], [vI 3, vR 88], LAY (u (shA A) 87 (wr (A 87) 3 ((rd (A 87) 3) + 1))) (shF F), 0, 0)) hc154 2 rfl trivial ?_
      refine R_cv hc154 rfl rfl ?_ (fun r G h => h)
      refine R_s (P := inI ((F 0) - 1) ∧ True) (f' := (8, [some (vR 88), some (vI 3)], [vI ((F 0) - 1), vI 0, vI 3], LAY (u (shA A) 87 (wr (A 87) 3 ((rd (A 87) 3) + 1))) (shF F), 0, 0)) hc108 6 rfl ⟨⟨by omega, by omega⟩, trivial⟩ ?_
      refine R_cs hc108 rfl rfl ?_ (fun r G h => h)
      refine R_s (P := True) (f' := (2, [some (vI 3), some (vI 0), some (vI ((F 0) - 1))], [vI 0, vI 3], LAY (u (shA A) 87 (wr (A 87) 3 ((rd (A 87) 3) + 1))) (shF F), 0, 0)) hc104 2 rfl trivial ?_
      refine R_ic (t := 14) hc104 rfl rfl (fun (z : 3 < 0) => absurd z (by decide)) (fun (_ : ¬ (3 < 0)) => ?_)
      refine R_s (P := True) (f' := (7, [some (vI 3), some (vI 0), some (vI ((F 0) - 1))], [vI ((F 0) - 1), vI 3], LAY (u (shA A) 87 (wr (A 87) 3 ((rd (A 87) 3) + 1))) (shF F), 0, 0)) hc104 2 rfl trivial ?_
      refine R_ic (t := 14) hc104 rfl rfl (fun (z : (F 0) - 1 < 3) => absurd z (by omega)) (fun (_ : ¬ ((F 0) - 1 < 3)) => ?_)
      refine R_s (P := True) (f' := (15, [some (vI 3), some (vI 0), some (vI ((F 0) - 1))], [vI 1], LAY (u (shA A) 87 (wr (A 87) 3 ((rd (A 87) 3) + 1))) (shF F), 0, 0)) hc104 2 rfl trivial ?_
      refine R_retz hc104 rfl rfl (Or.inr rfl) ?_
      refine R_s (f' := (11, [some (vR 88), some (vI 3)], [vI 1], LAY (u (shA A) 87 (wr (A 87) 3 ((rd (A 87) 3) + 1))) (shF F), 0, 0)) hc108 0 rfl trivial ?_
      refine R_retz hc108 rfl rfl (Or.inr rfl) ?_
      refine R_s (f' := (5, [some (vR 88), some (vI 3), some (vI p), some (vI g), none, none, none, none, none, none], [vI 1], LAY (u (shA A) 87 (wr (A 87) 3 ((rd (A 87) 3) + 1))) (shF F), 0, 0)) hc154 0 rfl trivial ?_
      refine R_if (t := 16) hc154 rfl rfl (fun (z : 1 = 0) => absurd z (by decide)) (fun (_ : ¬ (1 = 0)) => ?_)
      refine R_s (P := True) (f' := (10, [some (vR 88), some (vI 3), some (vI p), some (vI g), none, none, none, none, none, none], [vI p, vR 88], LAY (u (shA A) 87 (wr (A 87) 3 ((rd (A 87) 3) + 1))) (shF F), 0, 0)) hc154 2 rfl trivial ?_
      refine R_cv hc154 rfl rfl ?_ (fun r G h => h)
      refine R_s (P := inI ((F 3) - 1) ∧ True) (f' := (8, [some (vR 88), some (vI p)], [vI ((F 3) - 1), vI 0, vI p], LAY (u (shA A) 87 (wr (A 87) 3 ((rd (A 87) 3) + 1))) (shF F), 0, 0)) hc106 6 rfl ⟨⟨by omega, by omega⟩, trivial⟩ ?_
      refine R_cs hc106 rfl rfl ?_ (fun r G h => h)
      refine R_s (P := True) (f' := (2, [some (vI p), some (vI 0), some (vI ((F 3) - 1))], [vI 0, vI p], LAY (u (shA A) 87 (wr (A 87) 3 ((rd (A 87) 3) + 1))) (shF F), 0, 0)) hc104 2 rfl trivial ?_
      refine R_ic (t := 14) hc104 rfl rfl (fun (z : p < 0) => absurd z (by omega)) (fun (_ : ¬ (p < 0)) => ?_)
      refine R_s (P := True) (f' := (7, [some (vI p), some (vI 0), some (vI ((F 3) - 1))], [vI ((F 3) - 1), vI p], LAY (u (shA A) 87 (wr (A 87) 3 ((rd (A 87) 3) + 1))) (shF F), 0, 0)) hc104 2 rfl trivial ?_
      refine R_ic (t := 14) hc104 rfl rfl (fun (_ : (F 3) - 1 < p) => ?_) (fun (z : ¬ ((F 3) - 1 < p)) => absurd (show (F 3) - 1 < p by omega) z)
      refine R_s (P := True) (f' := (15, [some (vI p), some (vI 0), some (vI ((F 3) - 1))], [vI 0], LAY (u (shA A) 87 (wr (A 87) 3 ((rd (A 87) 3) + 1))) (shF F), 0, 0)) hc104 1 rfl trivial ?_
      refine R_retz hc104 rfl rfl (Or.inl rfl) ?_
      refine R_s (f' := (11, [some (vR 88), some (vI p)], [vI 0], LAY (u (shA A) 87 (wr (A 87) 3 ((rd (A 87) 3) + 1))) (shF F), 0, 0)) hc106 0 rfl trivial ?_
      refine R_retz hc106 rfl rfl (Or.inl rfl) ?_
      refine R_s (f' := (13, [some (vR 88), some (vI 3), some (vI p), some (vI g), none, none, none, none, none, none], [vI 0], LAY (u (shA A) 87 (wr (A 87) 3 ((rd (A 87) 3) + 1))) (shF F), 0, 0)) hc154 0 rfl trivial ?_
      refine R_if (t := 23) hc154 rfl rfl (fun (z : ¬ 0 = 0) => absurd z (by decide)) (fun (_ : ¬ (¬ 0 = 0)) => ?_)
      refine R_s (P := True) (f' := (19, [some (vR 88), some (vI 3), some (vI p), some (vI g), none, none, none, none, none, none], [vI (-3), vR 88], LAY (u (shA A) 87 (wr (A 87) 3 ((rd (A 87) 3) + 1))) (shF F), 0, 0)) hc154 2 rfl trivial ?_
      refine R_cv hc154 rfl rfl ?_ (fun r G h => h)
      refine R_s (P := inI 3 ∧ (0 ≤ 3 ∧ 3 < ((A 87).length : Int)) ∧ inI ((rd (A 87) 3) + 1) ∧ (0 ≤ 3 ∧ 3 < ((A 87).length : Int)) ∧ True) (f' := (12, [some (vR 88), some (vI (-3))], [vI (-3)], LAY (u (u (shA A) 87 (wr (A 87) 3 ((rd (A 87) 3) + 1))) 89 (wr (A 87) 3 ((rd (A 87) 3) + 1))) (shF F), 0, 0)) hc105 10 rfl ⟨⟨by omega, by omega⟩, ⟨by omega, by omega⟩, ⟨by omega, by omega⟩, ⟨by omega, by omega⟩, trivial⟩ ?_
      refine R_reti hc105 rfl rfl ?_
      refine R_s (f' := (22, [some (vR 88), some (vI 3), some (vI p), some (vI g), none, none, none, none, none, none], [vI (-3)], LAY (u (u (shA A) 87 (wr (A 87) 3 ((rd (A 87) 3) + 1))) 89 (wr (A 87) 3 ((rd (A 87) 3) + 1))) (shF F), 0, 0)) hc154 0 rfl trivial ?_
      refine R_reti hc154 rfl rfl ?_
      first
        | (exfalso; omega; done)
        | exact ⟨rfl, (u A 87 (wr (A 87) 3 ((rd (A 87) 3) + 1))), F, rfl, rfl, REL_ref hR0 (by decide) (by decide)⟩
    · refine R_s (P := True) (f' := (17, [some (vR 2), some (vI p)], [vI 1], LAY (shA A) (shF F), 0, 0)) hc5 2 rfl trivial ?_
      refine R_retz hc5 rfl rfl (Or.inr rfl) ?_
      refine R_s (f' := (20, [some (vR 1), some (vI 3), some (vI p), some (vI g), some (vR 47), none, none, none, none, none], [vI 1], LAY (shA A) (shF F), 0, 0)) hc80 0 rfl trivial ?_
      refine R_if (t := 30) hc80 rfl rfl (fun (_ : ¬ 1 = 0) => ?_) (fun (z : ¬ (¬ 1 = 0)) => absurd (by decide) z)
      refine R_s (P := True) (f' := (35, [some (vR 1), some (vI 3), some (vI p), some (vI g), some (vR 47), none, none, none, none, none], [vI 3, vR 12], LAY (shA A) (shF F), 0, 0)) hc80 3 rfl trivial ?_
      refine R_cv hc80 rfl rfl (l_yieldC (A := (shA A)) (F := (shF F)) (LENS_sh hL) ⟨t1, t2⟩ 3 (by decide) (fun i hi => R_prod hR0 (d := 3) (by decide) i hi)) (fun r G9 hp9 => ?_)
      obtain ⟨e1, rfl⟩ := hp9
      have e2 : r = some (vI (N_Y A F 3)) := e1
      clear e1
      subst e2
      refine R_s (f' := (38, [some (vR 1), some (vI 3), some (vI p), some (vI g), some (vR 47), none, none, none, none, none], [vI (N_Y A F 3)], LAY (shA A) (shF F), 0, 0)) hc80 0 rfl trivial ?_
      refine R_s (P := True) (f' := (49, [some (vR 1), some (vI 3), some (vI p), some (vI g), some (vR 47), some (vI (N_Y A F 3)), none, none, none, none], [vI (F 2), vR 2, vI 1], LAY (shA A) (shF F), 0, 0)) hc80 6 rfl trivial ?_
      refine R_cv hc80 rfl rfl (l_doubtful (A := (shA A)) (F := (shF F)) (n := (F 3).toNat) (LENS_sh hL) (R_n hR0) (R_n30 hR0) (yr := F 2)) (fun r G9 hp9 => ?_)
      obtain ⟨rfl, rfl⟩ := hp9
      refine R_s (f' := (52, [some (vR 1), some (vI 3), some (vI p), some (vI g), some (vR 47), some (vI (N_Y A F 3)), none, none, none, none], [vI ((rk (F 2) (A 4) (A 6) (F 3).toNat : Nat) : Int), vI 1], LAY (shA A) (shF F), 0, 0)) hc80 0 rfl trivial ?_
      refine R_s (P := (0 ≤ ((rk (F 2) (A 4) (A 6) (F 3).toNat : Nat) : Int) ∧ ((rk (F 2) (A 4) (A 6) (F 3).toNat : Nat) : Int) < 31 ∧ 0 ≤ 1 ∧ 1 * 2 ^ (((rk (F 2) (A 4) (A 6) (F 3).toNat : Nat) : Int) : Int).toNat ≤ 2147483647) ∧ True) (f' := (61, [some (vR 1), some (vI 3), some (vI p), some (vI g), some (vR 47), some (vI (N_Y A F 3)), some (vI (1 * 2 ^ (((rk (F 2) (A 4) (A 6) (F 3).toNat : Nat) : Int) : Int).toNat)), some (vI 0), some (vI 0), none], [], LAY (shA A) (shF F), 0, 0)) hc80 6 rfl ⟨⟨by omega, by omega, by omega, by (rw [Int.toNat_natCast, Int.one_mul]; have z2 : ((2 ^ rk (F 2) (A 4) (A 6) (F 3).toNat : Nat) : Int) ≤ 32 := (by omega); push_cast at z2; omega)⟩, trivial⟩ ?_
      refine bound_C3 hR0 hd (p := p) (g := g) ⟨by omega, by omega⟩ rfl (by rw [Int.toNat_natCast, Int.one_mul]; push_cast; rfl) (fun b x v9 l8 l9 l10 l11 l75 l76 l77 l78 k8 k9 k10 k11 k75 k76 k77 k78 v14 v15 hB => ?_)
      refine R_s (P := True) (f' := (149, [some (vR 1), some (vI 3), some (vI p), some (vI g), some (vR 47), some (vI (N_Y A F 3)), some (vI (1 * 2 ^ (((rk (F 2) (A 4) (A 6) (F 3).toNat : Nat) : Int) : Int).toNat)), some (vI b), some (vI x), v9], [vI b], LAY (u (u (u (u (u (u (u (u (shA A) 8 l8) 9 l9) 10 l10) 11 l11) 75 l75) 76 l76) 77 l77) 78 l78) (u (u (shF F) 14 v14) 15 v15), 0, 0)) hc80 1 rfl trivial ?_
      refine R_reti hc80 rfl rfl ⟨⟨_, rfl⟩, ⟨_, _, rfl, rfl⟩, ?_⟩
      refine R_s (P := True) (f' := (2, [some (vR 88), some (vI 3), some (vI p), some (vI g), none, none, none, none, none, none], [vI 3, vR 88], LAY (u (u (u (u (u (u (u (u (shA A) 8 l8) 9 l9) 10 l10) 11 l11) 75 l75) 76 l76) 77 l77) 78 l78) (u (u (shF F) 14 v14) 15 v15), 0, 0)) hc154 2 rfl trivial ?_
      refine R_cv hc154 rfl rfl ?_ (fun r G h => h)
      refine R_s (P := inI ((F 0) - 1) ∧ True) (f' := (8, [some (vR 88), some (vI 3)], [vI ((F 0) - 1), vI 0, vI 3], LAY (u (u (u (u (u (u (u (u (shA A) 8 l8) 9 l9) 10 l10) 11 l11) 75 l75) 76 l76) 77 l77) 78 l78) (u (u (shF F) 14 v14) 15 v15), 0, 0)) hc108 6 rfl ⟨⟨by omega, by omega⟩, trivial⟩ ?_
      refine R_cs hc108 rfl rfl ?_ (fun r G h => h)
      refine R_s (P := True) (f' := (2, [some (vI 3), some (vI 0), some (vI ((F 0) - 1))], [vI 0, vI 3], LAY (u (u (u (u (u (u (u (u (shA A) 8 l8) 9 l9) 10 l10) 11 l11) 75 l75) 76 l76) 77 l77) 78 l78) (u (u (shF F) 14 v14) 15 v15), 0, 0)) hc104 2 rfl trivial ?_
      refine R_ic (t := 14) hc104 rfl rfl (fun (z : 3 < 0) => absurd z (by decide)) (fun (_ : ¬ (3 < 0)) => ?_)
      refine R_s (P := True) (f' := (7, [some (vI 3), some (vI 0), some (vI ((F 0) - 1))], [vI ((F 0) - 1), vI 3], LAY (u (u (u (u (u (u (u (u (shA A) 8 l8) 9 l9) 10 l10) 11 l11) 75 l75) 76 l76) 77 l77) 78 l78) (u (u (shF F) 14 v14) 15 v15), 0, 0)) hc104 2 rfl trivial ?_
      refine R_ic (t := 14) hc104 rfl rfl (fun (z : (F 0) - 1 < 3) => absurd z (by omega)) (fun (_ : ¬ ((F 0) - 1 < 3)) => ?_)
      refine R_s (P := True) (f' := (15, [some (vI 3), some (vI 0), some (vI ((F 0) - 1))], [vI 1], LAY (u (u (u (u (u (u (u (u (shA A) 8 l8) 9 l9) 10 l10) 11 l11) 75 l75) 76 l76) 77 l77) 78 l78) (u (u (shF F) 14 v14) 15 v15), 0, 0)) hc104 2 rfl trivial ?_
      refine R_retz hc104 rfl rfl (Or.inr rfl) ?_
      refine R_s (f' := (11, [some (vR 88), some (vI 3)], [vI 1], LAY (u (u (u (u (u (u (u (u (shA A) 8 l8) 9 l9) 10 l10) 11 l11) 75 l75) 76 l76) 77 l77) 78 l78) (u (u (shF F) 14 v14) 15 v15), 0, 0)) hc108 0 rfl trivial ?_
      refine R_retz hc108 rfl rfl (Or.inr rfl) ?_
      refine R_s (f' := (5, [some (vR 88), some (vI 3), some (vI p), some (vI g), none, none, none, none, none, none], [vI 1], LAY (u (u (u (u (u (u (u (u (shA A) 8 l8) 9 l9) 10 l10) 11 l11) 75 l75) 76 l76) 77 l77) 78 l78) (u (u (shF F) 14 v14) 15 v15), 0, 0)) hc154 0 rfl trivial ?_
      refine R_if (t := 16) hc154 rfl rfl (fun (z : 1 = 0) => absurd z (by decide)) (fun (_ : ¬ (1 = 0)) => ?_)
      refine R_s (P := True) (f' := (10, [some (vR 88), some (vI 3), some (vI p), some (vI g), none, none, none, none, none, none], [vI p, vR 88], LAY (u (u (u (u (u (u (u (u (shA A) 8 l8) 9 l9) 10 l10) 11 l11) 75 l75) 76 l76) 77 l77) 78 l78) (u (u (shF F) 14 v14) 15 v15), 0, 0)) hc154 2 rfl trivial ?_
      refine R_cv hc154 rfl rfl ?_ (fun r G h => h)
      refine R_s (P := inI ((F 3) - 1) ∧ True) (f' := (8, [some (vR 88), some (vI p)], [vI ((F 3) - 1), vI 0, vI p], LAY (u (u (u (u (u (u (u (u (shA A) 8 l8) 9 l9) 10 l10) 11 l11) 75 l75) 76 l76) 77 l77) 78 l78) (u (u (shF F) 14 v14) 15 v15), 0, 0)) hc106 6 rfl ⟨⟨by omega, by omega⟩, trivial⟩ ?_
      refine R_cs hc106 rfl rfl ?_ (fun r G h => h)
      refine R_s (P := True) (f' := (2, [some (vI p), some (vI 0), some (vI ((F 3) - 1))], [vI 0, vI p], LAY (u (u (u (u (u (u (u (u (shA A) 8 l8) 9 l9) 10 l10) 11 l11) 75 l75) 76 l76) 77 l77) 78 l78) (u (u (shF F) 14 v14) 15 v15), 0, 0)) hc104 2 rfl trivial ?_
      refine R_ic (t := 14) hc104 rfl rfl (fun (z : p < 0) => absurd z (by omega)) (fun (_ : ¬ (p < 0)) => ?_)
      refine R_s (P := True) (f' := (7, [some (vI p), some (vI 0), some (vI ((F 3) - 1))], [vI ((F 3) - 1), vI p], LAY (u (u (u (u (u (u (u (u (shA A) 8 l8) 9 l9) 10 l10) 11 l11) 75 l75) 76 l76) 77 l77) 78 l78) (u (u (shF F) 14 v14) 15 v15), 0, 0)) hc104 2 rfl trivial ?_
      refine R_ic (t := 14) hc104 rfl rfl (fun (z : (F 3) - 1 < p) => absurd z (by omega)) (fun (_ : ¬ ((F 3) - 1 < p)) => ?_)
      refine R_s (P := True) (f' := (15, [some (vI p), some (vI 0), some (vI ((F 3) - 1))], [vI 1], LAY (u (u (u (u (u (u (u (u (shA A) 8 l8) 9 l9) 10 l10) 11 l11) 75 l75) 76 l76) 77 l77) 78 l78) (u (u (shF F) 14 v14) 15 v15), 0, 0)) hc104 2 rfl trivial ?_
      refine R_retz hc104 rfl rfl (Or.inr rfl) ?_
      refine R_s (f' := (11, [some (vR 88), some (vI p)], [vI 1], LAY (u (u (u (u (u (u (u (u (shA A) 8 l8) 9 l9) 10 l10) 11 l11) 75 l75) 76 l76) 77 l77) 78 l78) (u (u (shF F) 14 v14) 15 v15), 0, 0)) hc106 0 rfl trivial ?_
      refine R_retz hc106 rfl rfl (Or.inr rfl) ?_
      refine R_s (f' := (13, [some (vR 88), some (vI 3), some (vI p), some (vI g), none, none, none, none, none, none], [vI 1], LAY (u (u (u (u (u (u (u (u (shA A) 8 l8) 9 l9) 10 l10) 11 l11) 75 l75) 76 l76) 77 l77) 78 l78) (u (u (shF F) 14 v14) 15 v15), 0, 0)) hc154 0 rfl trivial ?_
      refine R_if (t := 23) hc154 rfl rfl (fun (_ : ¬ 1 = 0) => ?_) (fun (z : ¬ (¬ 1 = 0)) => absurd (by decide) z)
      refine R_mono (bound_M hR0 (A0 := (u (u (u (u (u (u (u (u (shA A) 8 l8) 9 l9) 10 l10) 11 l11) 75 l75) 76 l76) 77 l77) 78 l78)) (F0 := (u (u (shF F) 14 v14) 15 v15)) rfl rfl rfl rfl rfl rfl rfl rfl rfl rfl rfl rfl rfl rfl (hL 109 (by decide)) (hL 104 (by decide)) (hL 105 (by decide)) (hL 110 (by decide)) (hL 111 (by decide)) (hL 108 (by decide)) (hL 107 (by decide)) hD.1 hD.2 rfl (p := p) (g := g) ⟨by omega, by omega⟩) (fun r8 G8 hp8 => ?_)
      obtain ⟨b2, l109, l104, l105, l110, l111, l108, l107, v28, v29, v30, v31, rfl, hB2, rfl, k109, k104, k105, k110, k111, k108, k107⟩ := hp8
      have e8 : b2 = b := BEST_eq hB hB2 (fun i _ => by
        obtain ⟨w1, h1, h2⟩ := way_CM (A := A) (F := F) i
        exact ⟨w1, h1, by unfold vW; rw [h2]⟩) (fun j _ => by
        obtain ⟨w1, h1, h2⟩ := way_MC (A := A) (F := F) j
        exact ⟨w1, h1, by unfold vW; rw [h2]⟩)
      first
        | (exfalso; omega; done)
        | exact ⟨(by rw [show b2 = b by omega]), (u (u (u (u (u (u (u (u (u (u (u (u (u (u (u A 8 l8) 9 l9) 10 l10) 11 l11) 75 l75) 76 l76) 77 l77) 78 l78) 109 l109) 104 l104) 105 l105) 110 l110) 111 l111) 108 l108) 107 l107), (u (u (u (u (u (u F 14 v14) 15 v15) 28 v28) 29 v29) 30 v30) 31 v31), rfl, rfl, ⟨(LENS_u (LENS_u (LENS_u (LENS_u (LENS_u (LENS_u (LENS_u (LENS_u (LENS_u (LENS_u (LENS_u (LENS_u (LENS_u (LENS_u (LENS_u hL (by show (l8).length = (A 8).length; rw [k8, hL 8 (by decide)]; rfl)) (by show (l9).length = (A 9).length; rw [k9, hL 9 (by decide)]; rfl)) (by show (l10).length = (A 10).length; rw [k10, hL 10 (by decide)]; rfl)) (by show (l11).length = (A 11).length; rw [k11, hL 11 (by decide)]; rfl)) (by show (l75).length = (A 75).length; rw [k75, hL 75 (by decide)]; rfl)) (by show (l76).length = (A 76).length; rw [k76, hL 76 (by decide)]; rfl)) (by show (l77).length = (A 77).length; rw [k77, hL 77 (by decide)]; rfl)) (by show (l78).length = (A 78).length; rw [k78, hL 78 (by decide)]; rfl)) (by show (l109).length = (A 109).length; rw [k109, hL 109 (by decide)]; rfl)) (by show (l104).length = (A 104).length; rw [k104, hL 104 (by decide)]; rfl)) (by show (l105).length = (A 105).length; rw [k105, hL 105 (by decide)]; rfl)) (by show (l110).length = (A 110).length; rw [k110, hL 110 (by decide)]; rfl)) (by show (l111).length = (A 111).length; rw [k111, hL 111 (by decide)]; rfl)) (by show (l108).length = (A 108).length; rw [k108, hL 108 (by decide)]; rfl)) (by show (l107).length = (A 107).length; rw [k107, hL 107 (by decide)]; rfl)), hR0.2.1, hR0.2.2.1, hR0.2.2.2.1, hR0.2.2.2.2.1, hR0.2.2.2.2.2.1, hR0.2.2.2.2.2.2.1, hR0.2.2.2.2.2.2.2.1, hR0.2.2.2.2.2.2.2.2.1, (REFU_c hR0.2.2.2.2.2.2.2.2.2)⟩⟩

theorem op_bound_4 {c : Int} {A : Nat → List Int} {F : Nat → Int} (hR : REL c A F) (hc : c < 512) (p g : Int) (i_p : inI p) (i_g : inI g) (hd : (4 : Int) < F 0) (hx : g = 0 ∨ g = 1) : R 80 (0, L0 80 [vR 1, vI 4, vI p, vI g], [], LAY (shA A) (shF F), 0, 0) (fun r G => (∃ x, r = some (vI x)) ∧ (∃ (A1 : Nat → List Int) (F1 : Nat → Int), G = LAY A1 F1 ∧ A1 0 = A 0) ∧ R 154 (0, L0 154 [vR 88, vI 4, vI p, vI g], [], G, 0, 0) (fun r2 G2 => r2 = r ∧ ∃ (A' : Nat → List Int) (F' : Nat → Int), G2 = LAY (shA A') (shF F') ∧ A' 0 = A 0 ∧ REL (c + 1) A' F')) := by
  have hR0 := hR
  obtain ⟨hL, hPE, hTH, hTP, hDE, hLE, hNO, hAC, hRO, hRE⟩ := hR
  have j_p := i_p
  unfold inI at j_p
  have j_g := i_g
  unfold inI at j_g
  have h87 : (A 87).length = 9 := hL 87 (by decide)
  have h99 : (A 99).length = 6 := hL 99 (by decide)
  have r2 := REFU_at hRE (k := 2) (by decide) (by decide) hc
  have r3 := REFU_at hRE (k := 3) (by decide) (by decide) hc
  have r4 := REFU_at hRE (k := 4) (by decide) (by decide) hc
  have r5 := REFU_at hRE (k := 5) (by decide) (by decide) hc
  have r6 := REFU_at hRE (k := 6) (by decide) (by decide) hc
  have r7 := REFU_at hRE (k := 7) (by decide) (by decide) hc
  have r8 := REFU_at hRE (k := 8) (by decide) (by decide) hc
  obtain ⟨t1, t2, t3, t4, t5, t6⟩ := hTH
  obtain ⟨p1, p2, p3, p4, p5, p6⟩ := hPE
  have hD := D_at4 hR0 hd
  have he1 := hD.1.1
  have he2 := hD.1.2.1
  have hme : rd (A 99) 4 = F 12 := by
    have := hD.2.2.2.2.1
    omega
  obtain ⟨so, te, tp, mg, pm, lo, hS⟩ := SPL_ex A F (N_al A F) (N_Q A 57) (F 12).toNat (N_Y A F 4)
  have hk5 : rk (F 2) (A 4) (A 6) (F 3).toNat ≤ 5 := Nat.le_trans (rk_ck (F 2) (A 4) (A 6) (F 3).toNat) (ck5 hR0)
  have h32 := pow_le5 hk5
  refine R_s (P := True) (f' := (2, [some (vR 1), some (vI 4), some (vI p), some (vI g), none, none, none, none, none, none], [vI 4, vR 1], LAY (shA A) (shF F), 0, 0)) hc80 2 rfl trivial ?_
  refine R_cv hc80 rfl rfl ?_ (fun r G h => h)
  refine R_s (P := True) (f' := (2, [some (vR 1), some (vI 4)], [vI 4, vR 1], LAY (shA A) (shF F), 0, 0)) hc99 2 rfl trivial ?_
  refine R_cv hc99 rfl rfl ?_ (fun r G h => h)
  refine R_s (P := True) (f' := (1, [some (vR 1), some (vI 4)], [vI 4], LAY (shA A) (shF F), 0, 0)) hc98 1 rfl trivial ?_
  refine R_if (t := 16) hc98 rfl rfl (fun (z : 4 < 0) => absurd z (by decide)) (fun (_ : ¬ (4 < 0)) => ?_)
  refine R_s (P := True) (f' := (9, [some (vR 1), some (vI 4)], [vI (F 0), vI 4], LAY (shA A) (shF F), 0, 0)) hc98 3 rfl trivial ?_
  refine R_ic (t := 16) hc98 rfl rfl (fun (z : F 0 ≤ 4) => absurd z (by omega)) (fun (_ : ¬ (F 0 ≤ 4)) => ?_)
  refine R_s (P := True) (f' := (17, [some (vR 1), some (vI 4)], [vI 1], LAY (shA A) (shF F), 0, 0)) hc98 2 rfl trivial ?_
  refine R_retz hc98 rfl rfl (Or.inr rfl) ?_
  refine R_s (f' := (5, [some (vR 1), some (vI 4)], [vI 1], LAY (shA A) (shF F), 0, 0)) hc99 0 rfl trivial ?_
  refine R_if (t := 17) hc99 rfl rfl (fun (z : 1 = 0) => absurd z (by decide)) (fun (_ : ¬ (1 = 0)) => ?_)
  refine R_s (P := (0 ≤ (4 : Int) ∧ (4 : Int) < (([some 20, some 29, some 38, some 47, some 56, some 65] : List (Option Nat)).length : Int)) ∧ True) (f' := (18, [some (vR 1), some (vI 4)], [vR 56], LAY (shA A) (shF F), 0, 0)) hc99 5 rfl ⟨(by decide), trivial⟩ ?_
  refine R_reta hc99 rfl rfl ?_
  refine R_s (f' := (5, [some (vR 1), some (vI 4), some (vI p), some (vI g), none, none, none, none, none, none], [vR 56], LAY (shA A) (shF F), 0, 0)) hc80 0 rfl trivial ?_
  refine R_s (P := True) (f' := (17, [some (vR 1), some (vI 4), some (vI p), some (vI g), some (vR 56), none, none, none, none, none], [vI p, vR 2], LAY (shA A) (shF F), 0, 0)) hc80 6 rfl trivial ?_
  refine R_cv hc80 rfl rfl ?_ (fun r G h => h)
  refine R_s (P := True) (f' := (1, [some (vR 2), some (vI p)], [vI p], LAY (shA A) (shF F), 0, 0)) hc5 1 rfl trivial ?_
  refine R_if (t := 16) hc5 rfl rfl (fun (c4 : p < 0) => ?_) (fun (c4 : ¬ (p < 0)) => ?_)
  · refine R_s (P := True) (f' := (17, [some (vR 2), some (vI p)], [vI 0], LAY (shA A) (shF F), 0, 0)) hc5 1 rfl trivial ?_
    refine R_retz hc5 rfl rfl (Or.inl rfl) ?_
    refine R_s (f' := (20, [some (vR 1), some (vI 4), some (vI p), some (vI g), some (vR 56), none, none, none, none, none], [vI 0], LAY (shA A) (shF F), 0, 0)) hc80 0 rfl trivial ?_
    refine R_if (t := 30) hc80 rfl rfl (fun (z : ¬ 0 = 0) => absurd z (by decide)) (fun (_ : ¬ (¬ 0 = 0)) => ?_)
    refine R_s (P := True) (f' := (26, [some (vR 1), some (vI 4), some (vI p), some (vI g), some (vR 56), none, none, none, none, none], [vI (-3), vR 1], LAY (shA A) (shF F), 0, 0)) hc80 2 rfl trivial ?_
    refine R_cv hc80 rfl rfl ?_ (fun r G h => h)
    refine R_s (P := True) (f' := (3, [some (vR 1), some (vI (-3))], [vI (-2), vI (-3)], LAY (shA A) (shF F), 0, 0)) hc93 2 rfl trivial ?_
    refine R_ic (t := 23) hc93 rfl rfl (fun (z : (-2) < (-3)) => absurd z (by decide)) (fun (_ : ¬ ((-2) < (-3))) => ?_)
    refine R_s (P := True) (f' := (9, [some (vR 1), some (vI (-3))], [vI (-8), vI (-3)], LAY (shA A) (shF F), 0, 0)) hc93 2 rfl trivial ?_
    refine R_ic (t := 23) hc93 rfl rfl (fun (z : (-3) < (-8)) => absurd z (by decide)) (fun (_ : ¬ ((-3) < (-8))) => ?_)
    refine R_s (P := inI 3 ∧ (0 ≤ 3 ∧ 3 < ((A 87).length : Int)) ∧ inI ((rd (A 87) 3) + 1) ∧ (0 ≤ 3 ∧ 3 < ((A 87).length : Int)) ∧ True) (f' := (24, [some (vR 1), some (vI (-3))], [vI (-3)], LAY (u (shA A) 87 (wr (A 87) 3 ((rd (A 87) 3) + 1))) (shF F), 0, 0)) hc93 10 rfl ⟨⟨by omega, by omega⟩, ⟨by omega, by omega⟩, ⟨by omega, by omega⟩, ⟨by omega, by omega⟩, trivial⟩ ?_
    refine R_reti hc93 rfl rfl ?_
    refine R_s (f' := (29, [some (vR 1), some (vI 4), some (vI p), some (vI g), some (vR 56), none, none, none, none, none], [vI (-3)], LAY (u (shA A) 87 (wr (A 87) 3 ((rd (A 87) 3) + 1))) (shF F), 0, 0)) hc80 0 rfl trivial ?_
    refine R_reti hc80 rfl rfl ⟨⟨_, rfl⟩, ⟨_, _, rfl, rfl⟩, ?_⟩
    refine R_s (P := True) (f' := (2, [some (vR 88), some (vI 4), some (vI p), some (vI g), none, none, none, none, none, none], [vI 4, vR 88], LAY (u (shA A) 87 (wr (A 87) 3 ((rd (A 87) 3) + 1))) (shF F), 0, 0)) hc154 2 rfl trivial ?_
    refine R_cv hc154 rfl rfl ?_ (fun r G h => h)
    refine R_s (P := inI ((F 0) - 1) ∧ True) (f' := (8, [some (vR 88), some (vI 4)], [vI ((F 0) - 1), vI 0, vI 4], LAY (u (shA A) 87 (wr (A 87) 3 ((rd (A 87) 3) + 1))) (shF F), 0, 0)) hc108 6 rfl ⟨⟨by omega, by omega⟩, trivial⟩ ?_
    refine R_cs hc108 rfl rfl ?_ (fun r G h => h)
    refine R_s (P := True) (f' := (2, [some (vI 4), some (vI 0), some (vI ((F 0) - 1))], [vI 0, vI 4], LAY (u (shA A) 87 (wr (A 87) 3 ((rd (A 87) 3) + 1))) (shF F), 0, 0)) hc104 2 rfl trivial ?_
    refine R_ic (t := 14) hc104 rfl rfl (fun (z : 4 < 0) => absurd z (by decide)) (fun (_ : ¬ (4 < 0)) => ?_)
    refine R_s (P := True) (f' := (7, [some (vI 4), some (vI 0), some (vI ((F 0) - 1))], [vI ((F 0) - 1), vI 4], LAY (u (shA A) 87 (wr (A 87) 3 ((rd (A 87) 3) + 1))) (shF F), 0, 0)) hc104 2 rfl trivial ?_
    refine R_ic (t := 14) hc104 rfl rfl (fun (z : (F 0) - 1 < 4) => absurd z (by omega)) (fun (_ : ¬ ((F 0) - 1 < 4)) => ?_)
    refine R_s (P := True) (f' := (15, [some (vI 4), some (vI 0), some (vI ((F 0) - 1))], [vI 1], LAY (u (shA A) 87 (wr (A 87) 3 ((rd (A 87) 3) + 1))) (shF F), 0, 0)) hc104 2 rfl trivial ?_
    refine R_retz hc104 rfl rfl (Or.inr rfl) ?_
    refine R_s (f' := (11, [some (vR 88), some (vI 4)], [vI 1], LAY (u (shA A) 87 (wr (A 87) 3 ((rd (A 87) 3) + 1))) (shF F), 0, 0)) hc108 0 rfl trivial ?_
    refine R_retz hc108 rfl rfl (Or.inr rfl) ?_
    refine R_s (f' := (5, [some (vR 88), some (vI 4), some (vI p), some (vI g), none, none, none, none, none, none], [vI 1], LAY (u (shA A) 87 (wr (A 87) 3 ((rd (A 87) 3) + 1))) (shF F), 0, 0)) hc154 0 rfl trivial ?_
    refine R_if (t := 16) hc154 rfl rfl (fun (z : 1 = 0) => absurd z (by decide)) (fun (_ : ¬ (1 = 0)) => ?_)
    refine R_s (P := True) (f' := (10, [some (vR 88), some (vI 4), some (vI p), some (vI g), none, none, none, none, none, none], [vI p, vR 88], LAY (u (shA A) 87 (wr (A 87) 3 ((rd (A 87) 3) + 1))) (shF F), 0, 0)) hc154 2 rfl trivial ?_
    refine R_cv hc154 rfl rfl ?_ (fun r G h => h)
    refine R_s (P := inI ((F 3) - 1) ∧ True) (f' := (8, [some (vR 88), some (vI p)], [vI ((F 3) - 1), vI 0, vI p], LAY (u (shA A) 87 (wr (A 87) 3 ((rd (A 87) 3) + 1))) (shF F), 0, 0)) hc106 6 rfl ⟨⟨by omega, by omega⟩, trivial⟩ ?_
    refine R_cs hc106 rfl rfl ?_ (fun r G h => h)
    refine R_s (P := True) (f' := (2, [some (vI p), some (vI 0), some (vI ((F 3) - 1))], [vI 0, vI p], LAY (u (shA A) 87 (wr (A 87) 3 ((rd (A 87) 3) + 1))) (shF F), 0, 0)) hc104 2 rfl trivial ?_
    refine R_ic (t := 14) hc104 rfl rfl (fun (_ : p < 0) => ?_) (fun (z : ¬ (p < 0)) => absurd (show p < 0 by omega) z)
    refine R_s (P := True) (f' := (15, [some (vI p), some (vI 0), some (vI ((F 3) - 1))], [vI 0], LAY (u (shA A) 87 (wr (A 87) 3 ((rd (A 87) 3) + 1))) (shF F), 0, 0)) hc104 1 rfl trivial ?_
    refine R_retz hc104 rfl rfl (Or.inl rfl) ?_
    refine R_s (f' := (11, [some (vR 88), some (vI p)], [vI 0], LAY (u (shA A) 87 (wr (A 87) 3 ((rd (A 87) 3) + 1))) (shF F), 0, 0)) hc106 0 rfl trivial ?_
    refine R_retz hc106 rfl rfl (Or.inl rfl) ?_
    refine R_s (f' := (13, [some (vR 88), some (vI 4), some (vI p), some (vI g), none, none, none, none, none, none], [vI 0], LAY (u (shA A) 87 (wr (A 87) 3 ((rd (A 87) 3) + 1))) (shF F), 0, 0)) hc154 0 rfl trivial ?_
    refine R_if (t := 23) hc154 rfl rfl (fun (z : ¬ 0 = 0) => absurd z (by decide)) (fun (_ : ¬ (¬ 0 = 0)) => ?_)
    refine R_s (P := True) (f' := (19, [some (vR 88), some (vI 4), some (vI p), some (vI g), none, none, none, none, none, none], [vI (-3), vR 88], LAY (u (shA A) 87 (wr (A 87) 3 ((rd (A 87) 3) + 1))) (shF F), 0, 0)) hc154 2 rfl trivial ?_
    refine R_cv hc154 rfl rfl ?_ (fun r G h => h)
    refine R_s (P := inI 3 ∧ (0 ≤ 3 ∧ 3 < ((A 87).length : Int)) ∧ inI ((rd (A 87) 3) + 1) ∧ (0 ≤ 3 ∧ 3 < ((A 87).length : Int)) ∧ True) (f' := (12, [some (vR 88), some (vI (-3))], [vI (-3)], LAY (u (u (shA A) 87 (wr (A 87) 3 ((rd (A 87) 3) + 1))) 89 (wr (A 87) 3 ((rd (A 87) 3) + 1))) (shF F), 0, 0)) hc105 10 rfl ⟨⟨by omega, by omega⟩, ⟨by omega, by omega⟩, ⟨by omega, by omega⟩, ⟨by omega, by omega⟩, trivial⟩ ?_
    refine R_reti hc105 rfl rfl ?_
    refine R_s (f' := (22, [some (vR 88), some (vI 4), some (vI p), some (vI g), none, none, none, none, none, none], [vI (-3)], LAY (u (u (shA A) 87 (wr (A 87) 3 ((rd (A 87) 3) + 1))) 89 (wr (A 87) 3 ((rd (A 87) 3) + 1))) (shF F), 0, 0)) hc154 0 rfl trivial ?_
    refine R_reti hc154 rfl rfl ?_
    first
      | (exfalso; omega; done)
      | exact ⟨rfl, (u A 87 (wr (A 87) 3 ((rd (A 87) 3) + 1))), F, rfl, rfl, REL_ref hR0 (by decide) (by decide)⟩
  · refine R_s (P := True) (f' := (9, [some (vR 2), some (vI p)], [vI (F 3), vI p], LAY (shA A) (shF F), 0, 0)) hc5 3 rfl trivial ?_
    refine R_ic (t := 16) hc5 rfl rfl (fun (c5 : F 3 ≤ p) => ?_) (fun (c5 : ¬ (F 3 ≤ p)) => ?_)
    · refine R_s (P := True) (f' := (17, [some (vR 2), some (vI p)], [vI 0], LAY (shA A) (shF F), 0, 0)) hc5 1 rfl trivial ?_
      refine R_retz hc5 rfl rfl (Or.inl rfl) ?_
      refine R_s (f' := (20, [some (vR 1), some (vI 4), some (vI p), some (vI g), some (vR 56), none, none, none, none, none], [vI 0], LAY (shA A) (shF F), 0, 0)) hc80 0 rfl trivial ?_
      refine R_if (t := 30) hc80 rfl rfl (fun (z : ¬ 0 = 0) => absurd z (by decide)) (fun (_ : ¬ (¬ 0 = 0)) => ?_)
      refine R_s (P := True) (f' := (26, [some (vR 1), some (vI 4), some (vI p), some (vI g), some (vR 56), none, none, none, none, none], [vI (-3), vR 1], LAY (shA A) (shF F), 0, 0)) hc80 2 rfl trivial ?_
      refine R_cv hc80 rfl rfl ?_ (fun r G h => h)
      refine R_s (P := True) (f' := (3, [some (vR 1), some (vI (-3))], [vI (-2), vI (-3)], LAY (shA A) (shF F), 0, 0)) hc93 2 rfl trivial ?_
      refine R_ic (t := 23) hc93 rfl rfl (fun (z : (-2) < (-3)) => absurd z (by decide)) (fun (_ : ¬ ((-2) < (-3))) => ?_)
      refine R_s (P := True) (f' := (9, [some (vR 1), some (vI (-3))], [vI (-8), vI (-3)], LAY (shA A) (shF F), 0, 0)) hc93 2 rfl trivial ?_
      refine R_ic (t := 23) hc93 rfl rfl (fun (z : (-3) < (-8)) => absurd z (by decide)) (fun (_ : ¬ ((-3) < (-8))) => ?_)
      refine R_s (P := inI 3 ∧ (0 ≤ 3 ∧ 3 < ((A 87).length : Int)) ∧ inI ((rd (A 87) 3) + 1) ∧ (0 ≤ 3 ∧ 3 < ((A 87).length : Int)) ∧ True) (f' := (24, [some (vR 1), some (vI (-3))], [vI (-3)], LAY (u (shA A) 87 (wr (A 87) 3 ((rd (A 87) 3) + 1))) (shF F), 0, 0)) hc93 10 rfl ⟨⟨by omega, by omega⟩, ⟨by omega, by omega⟩, ⟨by omega, by omega⟩, ⟨by omega, by omega⟩, trivial⟩ ?_
      refine R_reti hc93 rfl rfl ?_
      refine R_s (f' := (29, [some (vR 1), some (vI 4), some (vI p), some (vI g), some (vR 56), none, none, none, none, none], [vI (-3)], LAY (u (shA A) 87 (wr (A 87) 3 ((rd (A 87) 3) + 1))) (shF F), 0, 0)) hc80 0 rfl trivial ?_
      refine R_reti hc80 rfl rfl ⟨⟨_, rfl⟩, ⟨_, _, rfl, rfl⟩, ?_⟩
      refine R_s (P := True) (f' := (2, [some (vR 88), some (vI 4), some (vI p), some (vI g), none, none, none, none, none, none], [vI 4, vR 88], LAY (u (shA A) 87 (wr (A 87) 3 ((rd (A 87) 3) + 1))) (shF F), 0, 0)) hc154 2 rfl trivial ?_
      refine R_cv hc154 rfl rfl ?_ (fun r G h => h)
      refine R_s (P := inI ((F 0) - 1) ∧ True) (f' := (8, [some (vR 88), some (vI 4)], [vI ((F 0) - 1), vI 0, vI 4], LAY (u (shA A) 87 (wr (A 87) 3 ((rd (A 87) 3) + 1))) (shF F), 0, 0)) hc108 6 rfl ⟨⟨by omega, by omega⟩, trivial⟩ ?_
      refine R_cs hc108 rfl rfl ?_ (fun r G h => h)
      refine R_s (P := True) (f' := (2, [some (vI 4), some (vI 0), some (vI ((F 0) - 1))], [vI 0, vI 4], LAY (u (shA A) 87 (wr (A 87) 3 ((rd (A 87) 3) + 1))) (shF F), 0, 0)) hc104 2 rfl trivial ?_
      refine R_ic (t := 14) hc104 rfl rfl (fun (z : 4 < 0) => absurd z (by decide)) (fun (_ : ¬ (4 < 0)) => ?_)
      refine R_s (P := True) (f' := (7, [some (vI 4), some (vI 0), some (vI ((F 0) - 1))], [vI ((F 0) - 1), vI 4], LAY (u (shA A) 87 (wr (A 87) 3 ((rd (A 87) 3) + 1))) (shF F), 0, 0)) hc104 2 rfl trivial ?_
      refine R_ic (t := 14) hc104 rfl rfl (fun (z : (F 0) - 1 < 4) => absurd z (by omega)) (fun (_ : ¬ ((F 0) - 1 < 4)) => ?_)
      refine R_s (P := True) (f' := (15, [some (vI 4), some (vI 0), some (vI ((F 0) - 1))], [vI 1], LAY (u (shA A) 87 (wr (A 87) 3 ((rd (A 87) 3) + 1))) (shF F), 0, 0)) hc104 2 rfl trivial ?_
      refine R_retz hc104 rfl rfl (Or.inr rfl) ?_
      refine R_s (f' := (11, [some (vR 88), some (vI 4)], [vI 1], LAY (u (shA A) 87 (wr (A 87) 3 ((rd (A 87) 3) + 1))) (shF F), 0, 0)) hc108 0 rfl trivial ?_
      refine R_retz hc108 rfl rfl (Or.inr rfl) ?_
      refine R_s (f' := (5, [some (vR 88), some (vI 4), some (vI p), some (vI g), none, none, none, none, none, none], [vI 1], LAY (u (shA A) 87 (wr (A 87) 3 ((rd (A 87) 3) + 1))) (shF F), 0, 0)) hc154 0 rfl trivial ?_
      refine R_if (t := 16) hc154 rfl rfl (fun (z : 1 = 0) => absurd z (by decide)) (fun (_ : ¬ (1 = 0)) => ?_)
      refine R_s (P := True) (f' := (10, [some (vR 88), some (vI 4), some (vI p), some (vI g), none, none, none, none, none, none], [vI p, vR 88], LAY (u (shA A) 87 (wr (A 87) 3 ((rd (A 87) 3) + 1))) (shF F), 0, 0)) hc154 2 rfl trivial ?_
      refine R_cv hc154 rfl rfl ?_ (fun r G h => h)
      refine R_s (P := inI ((F 3) - 1) ∧ True) (f' := (8, [some (vR 88), some (vI p)], [vI ((F 3) - 1), vI 0, vI p], LAY (u (shA A) 87 (wr (A 87) 3 ((rd (A 87) 3) + 1))) (shF F), 0, 0)) hc106 6 rfl ⟨⟨by omega, by omega⟩, trivial⟩ ?_
      refine R_cs hc106 rfl rfl ?_ (fun r G h => h)
      refine R_s (P := True) (f' := (2, [some (vI p), some (vI 0), some (vI ((F 3) - 1))], [vI 0, vI p], LAY (u (shA A) 87 (wr (A 87) 3 ((rd (A 87) 3) + 1))) (shF F), 0, 0)) hc104 2 rfl trivial ?_
      refine R_ic (t := 14) hc104 rfl rfl (fun (z : p < 0) => absurd z (by omega)) (fun (_ : ¬ (p < 0)) => ?_)
      refine R_s (P := True) (f' := (7, [some (vI p), some (vI 0), some (vI ((F 3) - 1))], [vI ((F 3) - 1), vI p], LAY (u (shA A) 87 (wr (A 87) 3 ((rd (A 87) 3) + 1))) (shF F), 0, 0)) hc104 2 rfl trivial ?_
      refine R_ic (t := 14) hc104 rfl rfl (fun (_ : (F 3) - 1 < p) => ?_) (fun (z : ¬ ((F 3) - 1 < p)) => absurd (show (F 3) - 1 < p by omega) z)
      refine R_s (P := True) (f' := (15, [some (vI p), some (vI 0), some (vI ((F 3) - 1))], [vI 0], LAY (u (shA A) 87 (wr (A 87) 3 ((rd (A 87) 3) + 1))) (shF F), 0, 0)) hc104 1 rfl trivial ?_
      refine R_retz hc104 rfl rfl (Or.inl rfl) ?_
      refine R_s (f' := (11, [some (vR 88), some (vI p)], [vI 0], LAY (u (shA A) 87 (wr (A 87) 3 ((rd (A 87) 3) + 1))) (shF F), 0, 0)) hc106 0 rfl trivial ?_
      refine R_retz hc106 rfl rfl (Or.inl rfl) ?_
      refine R_s (f' := (13, [some (vR 88), some (vI 4), some (vI p), some (vI g), none, none, none, none, none, none], [vI 0], LAY (u (shA A) 87 (wr (A 87) 3 ((rd (A 87) 3) + 1))) (shF F), 0, 0)) hc154 0 rfl trivial ?_
      refine R_if (t := 23) hc154 rfl rfl (fun (z : ¬ 0 = 0) => absurd z (by decide)) (fun (_ : ¬ (¬ 0 = 0)) => ?_)
      refine R_s (P := True) (f' := (19, [some (vR 88), some (vI 4), some (vI p), some (vI g), none, none, none, none, none, none], [vI (-3), vR 88], LAY (u (shA A) 87 (wr (A 87) 3 ((rd (A 87) 3) + 1))) (shF F), 0, 0)) hc154 2 rfl trivial ?_
      refine R_cv hc154 rfl rfl ?_ (fun r G h => h)
      refine R_s (P := inI 3 ∧ (0 ≤ 3 ∧ 3 < ((A 87).length : Int)) ∧ inI ((rd (A 87) 3) + 1) ∧ (0 ≤ 3 ∧ 3 < ((A 87).length : Int)) ∧ True) (f' := (12, [some (vR 88), some (vI (-3))], [vI (-3)], LAY (u (u (shA A) 87 (wr (A 87) 3 ((rd (A 87) 3) + 1))) 89 (wr (A 87) 3 ((rd (A 87) 3) + 1))) (shF F), 0, 0)) hc105 10 rfl ⟨⟨by omega, by omega⟩, ⟨by omega, by omega⟩, ⟨by omega, by omega⟩, ⟨by omega, by omega⟩, trivial⟩ ?_
      refine R_reti hc105 rfl rfl ?_
      refine R_s (f' := (22, [some (vR 88), some (vI 4), some (vI p), some (vI g), none, none, none, none, none, none], [vI (-3)], LAY (u (u (shA A) 87 (wr (A 87) 3 ((rd (A 87) 3) + 1))) 89 (wr (A 87) 3 ((rd (A 87) 3) + 1))) (shF F), 0, 0)) hc154 0 rfl trivial ?_
      refine R_reti hc154 rfl rfl ?_
      first
        | (exfalso; omega; done)
        | exact ⟨rfl, (u A 87 (wr (A 87) 3 ((rd (A 87) 3) + 1))), F, rfl, rfl, REL_ref hR0 (by decide) (by decide)⟩
    · refine R_s (P := True) (f' := (17, [some (vR 2), some (vI p)], [vI 1], LAY (shA A) (shF F), 0, 0)) hc5 2 rfl trivial ?_
      refine R_retz hc5 rfl rfl (Or.inr rfl) ?_
      refine R_s (f' := (20, [some (vR 1), some (vI 4), some (vI p), some (vI g), some (vR 56), none, none, none, none, none], [vI 1], LAY (shA A) (shF F), 0, 0)) hc80 0 rfl trivial ?_
      refine R_if (t := 30) hc80 rfl rfl (fun (_ : ¬ 1 = 0) => ?_) (fun (z : ¬ (¬ 1 = 0)) => absurd (by decide) z)
      refine R_s (P := True) (f' := (35, [some (vR 1), some (vI 4), some (vI p), some (vI g), some (vR 56), none, none, none, none, none], [vI 4, vR 12], LAY (shA A) (shF F), 0, 0)) hc80 3 rfl trivial ?_
      refine R_cv hc80 rfl rfl (l_yieldC (A := (shA A)) (F := (shF F)) (LENS_sh hL) ⟨t1, t2⟩ 4 (by decide) (fun i hi => R_prod hR0 (d := 4) (by decide) i hi)) (fun r G9 hp9 => ?_)
      obtain ⟨e1, rfl⟩ := hp9
      have e2 : r = some (vI (N_Y A F 4)) := e1
      clear e1
      subst e2
      refine R_s (f' := (38, [some (vR 1), some (vI 4), some (vI p), some (vI g), some (vR 56), none, none, none, none, none], [vI (N_Y A F 4)], LAY (shA A) (shF F), 0, 0)) hc80 0 rfl trivial ?_
      refine R_s (P := True) (f' := (49, [some (vR 1), some (vI 4), some (vI p), some (vI g), some (vR 56), some (vI (N_Y A F 4)), none, none, none, none], [vI (F 2), vR 2, vI 1], LAY (shA A) (shF F), 0, 0)) hc80 6 rfl trivial ?_
      refine R_cv hc80 rfl rfl (l_doubtful (A := (shA A)) (F := (shF F)) (n := (F 3).toNat) (LENS_sh hL) (R_n hR0) (R_n30 hR0) (yr := F 2)) (fun r G9 hp9 => ?_)
      obtain ⟨rfl, rfl⟩ := hp9
      refine R_s (f' := (52, [some (vR 1), some (vI 4), some (vI p), some (vI g), some (vR 56), some (vI (N_Y A F 4)), none, none, none, none], [vI ((rk (F 2) (A 4) (A 6) (F 3).toNat : Nat) : Int), vI 1], LAY (shA A) (shF F), 0, 0)) hc80 0 rfl trivial ?_
      refine R_s (P := (0 ≤ ((rk (F 2) (A 4) (A 6) (F 3).toNat : Nat) : Int) ∧ ((rk (F 2) (A 4) (A 6) (F 3).toNat : Nat) : Int) < 31 ∧ 0 ≤ 1 ∧ 1 * 2 ^ (((rk (F 2) (A 4) (A 6) (F 3).toNat : Nat) : Int) : Int).toNat ≤ 2147483647) ∧ True) (f' := (61, [some (vR 1), some (vI 4), some (vI p), some (vI g), some (vR 56), some (vI (N_Y A F 4)), some (vI (1 * 2 ^ (((rk (F 2) (A 4) (A 6) (F 3).toNat : Nat) : Int) : Int).toNat)), some (vI 0), some (vI 0), none], [], LAY (shA A) (shF F), 0, 0)) hc80 6 rfl ⟨⟨by omega, by omega, by omega, by (rw [Int.toNat_natCast, Int.one_mul]; have z2 : ((2 ^ rk (F 2) (A 4) (A 6) (F 3).toNat : Nat) : Int) ≤ 32 := (by omega); push_cast at z2; omega)⟩, trivial⟩ ?_
      refine bound_C4 hR0 hd (p := p) (g := g) ⟨by omega, by omega⟩ rfl (by rw [Int.toNat_natCast, Int.one_mul]; push_cast; rfl) (fun b x v9 l8 l9 l10 l11 l75 l76 l77 l78 k8 k9 k10 k11 k75 k76 k77 k78 v14 v15 hB => ?_)
      refine R_s (P := True) (f' := (149, [some (vR 1), some (vI 4), some (vI p), some (vI g), some (vR 56), some (vI (N_Y A F 4)), some (vI (1 * 2 ^ (((rk (F 2) (A 4) (A 6) (F 3).toNat : Nat) : Int) : Int).toNat)), some (vI b), some (vI x), v9], [vI b], LAY (u (u (u (u (u (u (u (u (shA A) 8 l8) 9 l9) 10 l10) 11 l11) 75 l75) 76 l76) 77 l77) 78 l78) (u (u (shF F) 14 v14) 15 v15), 0, 0)) hc80 1 rfl trivial ?_
      refine R_reti hc80 rfl rfl ⟨⟨_, rfl⟩, ⟨_, _, rfl, rfl⟩, ?_⟩
      refine R_s (P := True) (f' := (2, [some (vR 88), some (vI 4), some (vI p), some (vI g), none, none, none, none, none, none], [vI 4, vR 88], LAY (u (u (u (u (u (u (u (u (shA A) 8 l8) 9 l9) 10 l10) 11 l11) 75 l75) 76 l76) 77 l77) 78 l78) (u (u (shF F) 14 v14) 15 v15), 0, 0)) hc154 2 rfl trivial ?_
      refine R_cv hc154 rfl rfl ?_ (fun r G h => h)
      refine R_s (P := inI ((F 0) - 1) ∧ True) (f' := (8, [some (vR 88), some (vI 4)], [vI ((F 0) - 1), vI 0, vI 4], LAY (u (u (u (u (u (u (u (u (shA A) 8 l8) 9 l9) 10 l10) 11 l11) 75 l75) 76 l76) 77 l77) 78 l78) (u (u (shF F) 14 v14) 15 v15), 0, 0)) hc108 6 rfl ⟨⟨by omega, by omega⟩, trivial⟩ ?_
      refine R_cs hc108 rfl rfl ?_ (fun r G h => h)
      refine R_s (P := True) (f' := (2, [some (vI 4), some (vI 0), some (vI ((F 0) - 1))], [vI 0, vI 4], LAY (u (u (u (u (u (u (u (u (shA A) 8 l8) 9 l9) 10 l10) 11 l11) 75 l75) 76 l76) 77 l77) 78 l78) (u (u (shF F) 14 v14) 15 v15), 0, 0)) hc104 2 rfl trivial ?_
      refine R_ic (t := 14) hc104 rfl rfl (fun (z : 4 < 0) => absurd z (by decide)) (fun (_ : ¬ (4 < 0)) => ?_)
      refine R_s (P := True) (f' := (7, [some (vI 4), some (vI 0), some (vI ((F 0) - 1))], [vI ((F 0) - 1), vI 4], LAY (u (u (u (u (u (u (u (u (shA A) 8 l8) 9 l9) 10 l10) 11 l11) 75 l75) 76 l76) 77 l77) 78 l78) (u (u (shF F) 14 v14) 15 v15), 0, 0)) hc104 2 rfl trivial ?_
      refine R_ic (t := 14) hc104 rfl rfl (fun (z : (F 0) - 1 < 4) => absurd z (by omega)) (fun (_ : ¬ ((F 0) - 1 < 4)) => ?_)
      refine R_s (P := True) (f' := (15, [some (vI 4), some (vI 0), some (vI ((F 0) - 1))], [vI 1], LAY (u (u (u (u (u (u (u (u (shA A) 8 l8) 9 l9) 10 l10) 11 l11) 75 l75) 76 l76) 77 l77) 78 l78) (u (u (shF F) 14 v14) 15 v15), 0, 0)) hc104 2 rfl trivial ?_
      refine R_retz hc104 rfl rfl (Or.inr rfl) ?_
      refine R_s (f' := (11, [some (vR 88), some (vI 4)], [vI 1], LAY (u (u (u (u (u (u (u (u (shA A) 8 l8) 9 l9) 10 l10) 11 l11) 75 l75) 76 l76) 77 l77) 78 l78) (u (u (shF F) 14 v14) 15 v15), 0, 0)) hc108 0 rfl trivial ?_
      refine R_retz hc108 rfl rfl (Or.inr rfl) ?_
      refine R_s (f' := (5, [some (vR 88), some (vI 4), some (vI p), some (vI g), none, none, none, none, none, none], [vI 1], LAY (u (u (u (u (u (u (u (u (shA A) 8 l8) 9 l9) 10 l10) 11 l11) 75 l75) 76 l76) 77 l77) 78 l78) (u (u (shF F) 14 v14) 15 v15), 0, 0)) hc154 0 rfl trivial ?_
      refine R_if (t := 16) hc154 rfl rfl (fun (z : 1 = 0) => absurd z (by decide)) (fun (_ : ¬ (1 = 0)) => ?_)
      refine R_s (P := True) (f' := (10, [some (vR 88), some (vI 4), some (vI p), some (vI g), none, none, none, none, none, none], [vI p, vR 88], LAY (u (u (u (u (u (u (u (u (shA A) 8 l8) 9 l9) 10 l10) 11 l11) 75 l75) 76 l76) 77 l77) 78 l78) (u (u (shF F) 14 v14) 15 v15), 0, 0)) hc154 2 rfl trivial ?_
      refine R_cv hc154 rfl rfl ?_ (fun r G h => h)
      refine R_s (P := inI ((F 3) - 1) ∧ True) (f' := (8, [some (vR 88), some (vI p)], [vI ((F 3) - 1), vI 0, vI p], LAY (u (u (u (u (u (u (u (u (shA A) 8 l8) 9 l9) 10 l10) 11 l11) 75 l75) 76 l76) 77 l77) 78 l78) (u (u (shF F) 14 v14) 15 v15), 0, 0)) hc106 6 rfl ⟨⟨by omega, by omega⟩, trivial⟩ ?_
      refine R_cs hc106 rfl rfl ?_ (fun r G h => h)
      refine R_s (P := True) (f' := (2, [some (vI p), some (vI 0), some (vI ((F 3) - 1))], [vI 0, vI p], LAY (u (u (u (u (u (u (u (u (shA A) 8 l8) 9 l9) 10 l10) 11 l11) 75 l75) 76 l76) 77 l77) 78 l78) (u (u (shF F) 14 v14) 15 v15), 0, 0)) hc104 2 rfl trivial ?_
      refine R_ic (t := 14) hc104 rfl rfl (fun (z : p < 0) => absurd z (by omega)) (fun (_ : ¬ (p < 0)) => ?_)
      refine R_s (P := True) (f' := (7, [some (vI p), some (vI 0), some (vI ((F 3) - 1))], [vI ((F 3) - 1), vI p], LAY (u (u (u (u (u (u (u (u (shA A) 8 l8) 9 l9) 10 l10) 11 l11) 75 l75) 76 l76) 77 l77) 78 l78) (u (u (shF F) 14 v14) 15 v15), 0, 0)) hc104 2 rfl trivial ?_
      refine R_ic (t := 14) hc104 rfl rfl (fun (z : (F 3) - 1 < p) => absurd z (by omega)) (fun (_ : ¬ ((F 3) - 1 < p)) => ?_)
      refine R_s (P := True) (f' := (15, [some (vI p), some (vI 0), some (vI ((F 3) - 1))], [vI 1], LAY (u (u (u (u (u (u (u (u (shA A) 8 l8) 9 l9) 10 l10) 11 l11) 75 l75) 76 l76) 77 l77) 78 l78) (u (u (shF F) 14 v14) 15 v15), 0, 0)) hc104 2 rfl trivial ?_
      refine R_retz hc104 rfl rfl (Or.inr rfl) ?_
      refine R_s (f' := (11, [some (vR 88), some (vI p)], [vI 1], LAY (u (u (u (u (u (u (u (u (shA A) 8 l8) 9 l9) 10 l10) 11 l11) 75 l75) 76 l76) 77 l77) 78 l78) (u (u (shF F) 14 v14) 15 v15), 0, 0)) hc106 0 rfl trivial ?_
      refine R_retz hc106 rfl rfl (Or.inr rfl) ?_
      refine R_s (f' := (13, [some (vR 88), some (vI 4), some (vI p), some (vI g), none, none, none, none, none, none], [vI 1], LAY (u (u (u (u (u (u (u (u (shA A) 8 l8) 9 l9) 10 l10) 11 l11) 75 l75) 76 l76) 77 l77) 78 l78) (u (u (shF F) 14 v14) 15 v15), 0, 0)) hc154 0 rfl trivial ?_
      refine R_if (t := 23) hc154 rfl rfl (fun (_ : ¬ 1 = 0) => ?_) (fun (z : ¬ (¬ 1 = 0)) => absurd (by decide) z)
      refine R_mono (bound_M hR0 (A0 := (u (u (u (u (u (u (u (u (shA A) 8 l8) 9 l9) 10 l10) 11 l11) 75 l75) 76 l76) 77 l77) 78 l78)) (F0 := (u (u (shF F) 14 v14) 15 v15)) rfl rfl rfl rfl rfl rfl rfl rfl rfl rfl rfl rfl rfl rfl (hL 109 (by decide)) (hL 104 (by decide)) (hL 105 (by decide)) (hL 110 (by decide)) (hL 111 (by decide)) (hL 108 (by decide)) (hL 107 (by decide)) hD.1 hD.2 rfl (p := p) (g := g) ⟨by omega, by omega⟩) (fun r8 G8 hp8 => ?_)
      obtain ⟨b2, l109, l104, l105, l110, l111, l108, l107, v28, v29, v30, v31, rfl, hB2, rfl, k109, k104, k105, k110, k111, k108, k107⟩ := hp8
      have e8 : b2 = b := BEST_eq hB hB2 (fun i _ => by
        obtain ⟨w1, h1, h2⟩ := way_CM (A := A) (F := F) i
        exact ⟨w1, h1, by unfold vW; rw [h2]⟩) (fun j _ => by
        obtain ⟨w1, h1, h2⟩ := way_MC (A := A) (F := F) j
        exact ⟨w1, h1, by unfold vW; rw [h2]⟩)
      first
        | (exfalso; omega; done)
        | exact ⟨(by rw [show b2 = b by omega]), (u (u (u (u (u (u (u (u (u (u (u (u (u (u (u A 8 l8) 9 l9) 10 l10) 11 l11) 75 l75) 76 l76) 77 l77) 78 l78) 109 l109) 104 l104) 105 l105) 110 l110) 111 l111) 108 l108) 107 l107), (u (u (u (u (u (u F 14 v14) 15 v15) 28 v28) 29 v29) 30 v30) 31 v31), rfl, rfl, ⟨(LENS_u (LENS_u (LENS_u (LENS_u (LENS_u (LENS_u (LENS_u (LENS_u (LENS_u (LENS_u (LENS_u (LENS_u (LENS_u (LENS_u (LENS_u hL (by show (l8).length = (A 8).length; rw [k8, hL 8 (by decide)]; rfl)) (by show (l9).length = (A 9).length; rw [k9, hL 9 (by decide)]; rfl)) (by show (l10).length = (A 10).length; rw [k10, hL 10 (by decide)]; rfl)) (by show (l11).length = (A 11).length; rw [k11, hL 11 (by decide)]; rfl)) (by show (l75).length = (A 75).length; rw [k75, hL 75 (by decide)]; rfl)) (by show (l76).length = (A 76).length; rw [k76, hL 76 (by decide)]; rfl)) (by show (l77).length = (A 77).length; rw [k77, hL 77 (by decide)]; rfl)) (by show (l78).length = (A 78).length; rw [k78, hL 78 (by decide)]; rfl)) (by show (l109).length = (A 109).length; rw [k109, hL 109 (by decide)]; rfl)) (by show (l104).length = (A 104).length; rw [k104, hL 104 (by decide)]; rfl)) (by show (l105).length = (A 105).length; rw [k105, hL 105 (by decide)]; rfl)) (by show (l110).length = (A 110).length; rw [k110, hL 110 (by decide)]; rfl)) (by show (l111).length = (A 111).length; rw [k111, hL 111 (by decide)]; rfl)) (by show (l108).length = (A 108).length; rw [k108, hL 108 (by decide)]; rfl)) (by show (l107).length = (A 107).length; rw [k107, hL 107 (by decide)]; rfl)), hR0.2.1, hR0.2.2.1, hR0.2.2.2.1, hR0.2.2.2.2.1, hR0.2.2.2.2.2.1, hR0.2.2.2.2.2.2.1, hR0.2.2.2.2.2.2.2.1, hR0.2.2.2.2.2.2.2.2.1, (REFU_c hR0.2.2.2.2.2.2.2.2.2)⟩⟩

theorem op_bound_5 {c : Int} {A : Nat → List Int} {F : Nat → Int} (hR : REL c A F) (hc : c < 512) (p g : Int) (i_p : inI p) (i_g : inI g) (hd : (5 : Int) < F 0) (hx : g = 0 ∨ g = 1) : R 80 (0, L0 80 [vR 1, vI 5, vI p, vI g], [], LAY (shA A) (shF F), 0, 0) (fun r G => (∃ x, r = some (vI x)) ∧ (∃ (A1 : Nat → List Int) (F1 : Nat → Int), G = LAY A1 F1 ∧ A1 0 = A 0) ∧ R 154 (0, L0 154 [vR 88, vI 5, vI p, vI g], [], G, 0, 0) (fun r2 G2 => r2 = r ∧ ∃ (A' : Nat → List Int) (F' : Nat → Int), G2 = LAY (shA A') (shF F') ∧ A' 0 = A 0 ∧ REL (c + 1) A' F')) := by
  have hR0 := hR
  obtain ⟨hL, hPE, hTH, hTP, hDE, hLE, hNO, hAC, hRO, hRE⟩ := hR
  have j_p := i_p
  unfold inI at j_p
  have j_g := i_g
  unfold inI at j_g
  have h87 : (A 87).length = 9 := hL 87 (by decide)
  have h99 : (A 99).length = 6 := hL 99 (by decide)
  have r2 := REFU_at hRE (k := 2) (by decide) (by decide) hc
  have r3 := REFU_at hRE (k := 3) (by decide) (by decide) hc
  have r4 := REFU_at hRE (k := 4) (by decide) (by decide) hc
  have r5 := REFU_at hRE (k := 5) (by decide) (by decide) hc
  have r6 := REFU_at hRE (k := 6) (by decide) (by decide) hc
  have r7 := REFU_at hRE (k := 7) (by decide) (by decide) hc
  have r8 := REFU_at hRE (k := 8) (by decide) (by decide) hc
  obtain ⟨t1, t2, t3, t4, t5, t6⟩ := hTH
  obtain ⟨p1, p2, p3, p4, p5, p6⟩ := hPE
  have hD := D_at5 hR0 hd
  have he1 := hD.1.1
  have he2 := hD.1.2.1
  have hme : rd (A 99) 5 = F 13 := by
    have := hD.2.2.2.2.1
    omega
  obtain ⟨so, te, tp, mg, pm, lo, hS⟩ := SPL_ex A F (N_al A F) (N_Q A 66) (F 13).toNat (N_Y A F 5)
  have hk5 : rk (F 2) (A 4) (A 6) (F 3).toNat ≤ 5 := Nat.le_trans (rk_ck (F 2) (A 4) (A 6) (F 3).toNat) (ck5 hR0)
  have h32 := pow_le5 hk5
  refine R_s (P := True) (f' := (2, [some (vR 1), some (vI 5), some (vI p), some (vI g), none, none, none, none, none, none], [vI 5, vR 1], LAY (shA A) (shF F), 0, 0)) hc80 2 rfl trivial ?_
  refine R_cv hc80 rfl rfl ?_ (fun r G h => h)
  refine R_s (P := True) (f' := (2, [some (vR 1), some (vI 5)], [vI 5, vR 1], LAY (shA A) (shF F), 0, 0)) hc99 2 rfl trivial ?_
  refine R_cv hc99 rfl rfl ?_ (fun r G h => h)
  refine R_s (P := True) (f' := (1, [some (vR 1), some (vI 5)], [vI 5], LAY (shA A) (shF F), 0, 0)) hc98 1 rfl trivial ?_
  refine R_if (t := 16) hc98 rfl rfl (fun (z : 5 < 0) => absurd z (by decide)) (fun (_ : ¬ (5 < 0)) => ?_)
  refine R_s (P := True) (f' := (9, [some (vR 1), some (vI 5)], [vI (F 0), vI 5], LAY (shA A) (shF F), 0, 0)) hc98 3 rfl trivial ?_
  refine R_ic (t := 16) hc98 rfl rfl (fun (z : F 0 ≤ 5) => absurd z (by omega)) (fun (_ : ¬ (F 0 ≤ 5)) => ?_)
  refine R_s (P := True) (f' := (17, [some (vR 1), some (vI 5)], [vI 1], LAY (shA A) (shF F), 0, 0)) hc98 2 rfl trivial ?_
  refine R_retz hc98 rfl rfl (Or.inr rfl) ?_
  refine R_s (f' := (5, [some (vR 1), some (vI 5)], [vI 1], LAY (shA A) (shF F), 0, 0)) hc99 0 rfl trivial ?_
  refine R_if (t := 17) hc99 rfl rfl (fun (z : 1 = 0) => absurd z (by decide)) (fun (_ : ¬ (1 = 0)) => ?_)
  refine R_s (P := (0 ≤ (5 : Int) ∧ (5 : Int) < (([some 20, some 29, some 38, some 47, some 56, some 65] : List (Option Nat)).length : Int)) ∧ True) (f' := (18, [some (vR 1), some (vI 5)], [vR 65], LAY (shA A) (shF F), 0, 0)) hc99 5 rfl ⟨(by decide), trivial⟩ ?_
  refine R_reta hc99 rfl rfl ?_
  refine R_s (f' := (5, [some (vR 1), some (vI 5), some (vI p), some (vI g), none, none, none, none, none, none], [vR 65], LAY (shA A) (shF F), 0, 0)) hc80 0 rfl trivial ?_
  refine R_s (P := True) (f' := (17, [some (vR 1), some (vI 5), some (vI p), some (vI g), some (vR 65), none, none, none, none, none], [vI p, vR 2], LAY (shA A) (shF F), 0, 0)) hc80 6 rfl trivial ?_
  refine R_cv hc80 rfl rfl ?_ (fun r G h => h)
  refine R_s (P := True) (f' := (1, [some (vR 2), some (vI p)], [vI p], LAY (shA A) (shF F), 0, 0)) hc5 1 rfl trivial ?_
  refine R_if (t := 16) hc5 rfl rfl (fun (c4 : p < 0) => ?_) (fun (c4 : ¬ (p < 0)) => ?_)
  · refine R_s (P := True) (f' := (17, [some (vR 2), some (vI p)], [vI 0], LAY (shA A) (shF F), 0, 0)) hc5 1 rfl trivial ?_
    refine R_retz hc5 rfl rfl (Or.inl rfl) ?_
    refine R_s (f' := (20, [some (vR 1), some (vI 5), some (vI p), some (vI g), some (vR 65), none, none, none, none, none], [vI 0], LAY (shA A) (shF F), 0, 0)) hc80 0 rfl trivial ?_
    refine R_if (t := 30) hc80 rfl rfl (fun (z : ¬ 0 = 0) => absurd z (by decide)) (fun (_ : ¬ (¬ 0 = 0)) => ?_)
    refine R_s (P := True) (f' := (26, [some (vR 1), some (vI 5), some (vI p), some (vI g), some (vR 65), none, none, none, none, none], [vI (-3), vR 1], LAY (shA A) (shF F), 0, 0)) hc80 2 rfl trivial ?_
    refine R_cv hc80 rfl rfl ?_ (fun r G h => h)
    refine R_s (P := True) (f' := (3, [some (vR 1), some (vI (-3))], [vI (-2), vI (-3)], LAY (shA A) (shF F), 0, 0)) hc93 2 rfl trivial ?_
    refine R_ic (t := 23) hc93 rfl rfl (fun (z : (-2) < (-3)) => absurd z (by decide)) (fun (_ : ¬ ((-2) < (-3))) => ?_)
    refine R_s (P := True) (f' := (9, [some (vR 1), some (vI (-3))], [vI (-8), vI (-3)], LAY (shA A) (shF F), 0, 0)) hc93 2 rfl trivial ?_
    refine R_ic (t := 23) hc93 rfl rfl (fun (z : (-3) < (-8)) => absurd z (by decide)) (fun (_ : ¬ ((-3) < (-8))) => ?_)
    refine R_s (P := inI 3 ∧ (0 ≤ 3 ∧ 3 < ((A 87).length : Int)) ∧ inI ((rd (A 87) 3) + 1) ∧ (0 ≤ 3 ∧ 3 < ((A 87).length : Int)) ∧ True) (f' := (24, [some (vR 1), some (vI (-3))], [vI (-3)], LAY (u (shA A) 87 (wr (A 87) 3 ((rd (A 87) 3) + 1))) (shF F), 0, 0)) hc93 10 rfl ⟨⟨by omega, by omega⟩, ⟨by omega, by omega⟩, ⟨by omega, by omega⟩, ⟨by omega, by omega⟩, trivial⟩ ?_
    refine R_reti hc93 rfl rfl ?_
    refine R_s (f' := (29, [some (vR 1), some (vI 5), some (vI p), some (vI g), some (vR 65), none, none, none, none, none], [vI (-3)], LAY (u (shA A) 87 (wr (A 87) 3 ((rd (A 87) 3) + 1))) (shF F), 0, 0)) hc80 0 rfl trivial ?_
    refine R_reti hc80 rfl rfl ⟨⟨_, rfl⟩, ⟨_, _, rfl, rfl⟩, ?_⟩
    refine R_s (P := True) (f' := (2, [some (vR 88), some (vI 5), some (vI p), some (vI g), none, none, none, none, none, none], [vI 5, vR 88], LAY (u (shA A) 87 (wr (A 87) 3 ((rd (A 87) 3) + 1))) (shF F), 0, 0)) hc154 2 rfl trivial ?_
    refine R_cv hc154 rfl rfl ?_ (fun r G h => h)
    refine R_s (P := inI ((F 0) - 1) ∧ True) (f' := (8, [some (vR 88), some (vI 5)], [vI ((F 0) - 1), vI 0, vI 5], LAY (u (shA A) 87 (wr (A 87) 3 ((rd (A 87) 3) + 1))) (shF F), 0, 0)) hc108 6 rfl ⟨⟨by omega, by omega⟩, trivial⟩ ?_
    refine R_cs hc108 rfl rfl ?_ (fun r G h => h)
    refine R_s (P := True) (f' := (2, [some (vI 5), some (vI 0), some (vI ((F 0) - 1))], [vI 0, vI 5], LAY (u (shA A) 87 (wr (A 87) 3 ((rd (A 87) 3) + 1))) (shF F), 0, 0)) hc104 2 rfl trivial ?_
    refine R_ic (t := 14) hc104 rfl rfl (fun (z : 5 < 0) => absurd z (by decide)) (fun (_ : ¬ (5 < 0)) => ?_)
    refine R_s (P := True) (f' := (7, [some (vI 5), some (vI 0), some (vI ((F 0) - 1))], [vI ((F 0) - 1), vI 5], LAY (u (shA A) 87 (wr (A 87) 3 ((rd (A 87) 3) + 1))) (shF F), 0, 0)) hc104 2 rfl trivial ?_
    refine R_ic (t := 14) hc104 rfl rfl (fun (z : (F 0) - 1 < 5) => absurd z (by omega)) (fun (_ : ¬ ((F 0) - 1 < 5)) => ?_)
    refine R_s (P := True) (f' := (15, [some (vI 5), some (vI 0), some (vI ((F 0) - 1))], [vI 1], LAY (u (shA A) 87 (wr (A 87) 3 ((rd (A 87) 3) + 1))) (shF F), 0, 0)) hc104 2 rfl trivial ?_
    refine R_retz hc104 rfl rfl (Or.inr rfl) ?_
    refine R_s (f' := (11, [some (vR 88), some (vI 5)], [vI 1], LAY (u (shA A) 87 (wr (A 87) 3 ((rd (A 87) 3) + 1))) (shF F), 0, 0)) hc108 0 rfl trivial ?_
    refine R_retz hc108 rfl rfl (Or.inr rfl) ?_
    refine R_s (f' := (5, [some (vR 88), some (vI 5), some (vI p), some (vI g), none, none, none, none, none, none], [vI 1], LAY (u (shA A) 87 (wr (A 87) 3 ((rd (A 87) 3) + 1))) (shF F), 0, 0)) hc154 0 rfl trivial ?_
    refine R_if (t := 16) hc154 rfl rfl (fun (z : 1 = 0) => absurd z (by decide)) (fun (_ : ¬ (1 = 0)) => ?_)
    refine R_s (P := True) (f' := (10, [some (vR 88), some (vI 5), some (vI p), some (vI g), none, none, none, none, none, none], [vI p, vR 88], LAY (u (shA A) 87 (wr (A 87) 3 ((rd (A 87) 3) + 1))) (shF F), 0, 0)) hc154 2 rfl trivial ?_
    refine R_cv hc154 rfl rfl ?_ (fun r G h => h)
    refine R_s (P := inI ((F 3) - 1) ∧ True) (f' := (8, [some (vR 88), some (vI p)], [vI ((F 3) - 1), vI 0, vI p], LAY (u (shA A) 87 (wr (A 87) 3 ((rd (A 87) 3) + 1))) (shF F), 0, 0)) hc106 6 rfl ⟨⟨by omega, by omega⟩, trivial⟩ ?_
    refine R_cs hc106 rfl rfl ?_ (fun r G h => h)
    refine R_s (P := True) (f' := (2, [some (vI p), some (vI 0), some (vI ((F 3) - 1))], [vI 0, vI p], LAY (u (shA A) 87 (wr (A 87) 3 ((rd (A 87) 3) + 1))) (shF F), 0, 0)) hc104 2 rfl trivial ?_
    refine R_ic (t := 14) hc104 rfl rfl (fun (_ : p < 0) => ?_) (fun (z : ¬ (p < 0)) => absurd (show p < 0 by omega) z)
    refine R_s (P := True) (f' := (15, [some (vI p), some (vI 0), some (vI ((F 3) - 1))], [vI 0], LAY (u (shA A) 87 (wr (A 87) 3 ((rd (A 87) 3) + 1))) (shF F), 0, 0)) hc104 1 rfl trivial ?_
    refine R_retz hc104 rfl rfl (Or.inl rfl) ?_
    refine R_s (f' := (11, [some (vR 88), some (vI p)], [vI 0], LAY (u (shA A) 87 (wr (A 87) 3 ((rd (A 87) 3) + 1))) (shF F), 0, 0)) hc106 0 rfl trivial ?_
    refine R_retz hc106 rfl rfl (Or.inl rfl) ?_
    refine R_s (f' := (13, [some (vR 88), some (vI 5), some (vI p), some (vI g), none, none, none, none, none, none], [vI 0], LAY (u (shA A) 87 (wr (A 87) 3 ((rd (A 87) 3) + 1))) (shF F), 0, 0)) hc154 0 rfl trivial ?_
    refine R_if (t := 23) hc154 rfl rfl (fun (z : ¬ 0 = 0) => absurd z (by decide)) (fun (_ : ¬ (¬ 0 = 0)) => ?_)
    refine R_s (P := True) (f' := (19, [some (vR 88), some (vI 5), some (vI p), some (vI g), none, none, none, none, none, none], [vI (-3), vR 88], LAY (u (shA A) 87 (wr (A 87) 3 ((rd (A 87) 3) + 1))) (shF F), 0, 0)) hc154 2 rfl trivial ?_
    refine R_cv hc154 rfl rfl ?_ (fun r G h => h)
    refine R_s (P := inI 3 ∧ (0 ≤ 3 ∧ 3 < ((A 87).length : Int)) ∧ inI ((rd (A 87) 3) + 1) ∧ (0 ≤ 3 ∧ 3 < ((A 87).length : Int)) ∧ True) (f' := (12, [some (vR 88), some (vI (-3))], [vI (-3)], LAY (u (u (shA A) 87 (wr (A 87) 3 ((rd (A 87) 3) + 1))) 89 (wr (A 87) 3 ((rd (A 87) 3) + 1))) (shF F), 0, 0)) hc105 10 rfl ⟨⟨by omega, by omega⟩, ⟨by omega, by omega⟩, ⟨by omega, by omega⟩, ⟨by omega, by omega⟩, trivial⟩ ?_
    refine R_reti hc105 rfl rfl ?_
    refine R_s (f' := (22, [some (vR 88), some (vI 5), some (vI p), some (vI g), none, none, none, none, none, none], [vI (-3)], LAY (u (u (shA A) 87 (wr (A 87) 3 ((rd (A 87) 3) + 1))) 89 (wr (A 87) 3 ((rd (A 87) 3) + 1))) (shF F), 0, 0)) hc154 0 rfl trivial ?_
    refine R_reti hc154 rfl rfl ?_
    first
      | (exfalso; omega; done)
      | exact ⟨rfl, (u A 87 (wr (A 87) 3 ((rd (A 87) 3) + 1))), F, rfl, rfl, REL_ref hR0 (by decide) (by decide)⟩
  · refine R_s (P := True) (f' := (9, [some (vR 2), some (vI p)], [vI (F 3), vI p], LAY (shA A) (shF F), 0, 0)) hc5 3 rfl trivial ?_
    refine R_ic (t := 16) hc5 rfl rfl (fun (c5 : F 3 ≤ p) => ?_) (fun (c5 : ¬ (F 3 ≤ p)) => ?_)
    · refine R_s (P := True) (f' := (17, [some (vR 2), some (vI p)], [vI 0], LAY (shA A) (shF F), 0, 0)) hc5 1 rfl trivial ?_
      refine R_retz hc5 rfl rfl (Or.inl rfl) ?_
      refine R_s (f' := (20, [some (vR 1), some (vI 5), some (vI p), some (vI g), some (vR 65), none, none, none, none, none], [vI 0], LAY (shA A) (shF F), 0, 0)) hc80 0 rfl trivial ?_
      refine R_if (t := 30) hc80 rfl rfl (fun (z : ¬ 0 = 0) => absurd z (by decide)) (fun (_ : ¬ (¬ 0 = 0)) => ?_)
      refine R_s (P := True) (f' := (26, [some (vR 1), some (vI 5), some (vI p), some (vI g), some (vR 65), none, none, none, none, none], [vI (-3), vR 1], LAY (shA A) (shF F), 0, 0)) hc80 2 rfl trivial ?_
      refine R_cv hc80 rfl rfl ?_ (fun r G h => h)
      refine R_s (P := True) (f' := (3, [some (vR 1), some (vI (-3))], [vI (-2), vI (-3)], LAY (shA A) (shF F), 0, 0)) hc93 2 rfl trivial ?_
      refine R_ic (t := 23) hc93 rfl rfl (fun (z : (-2) < (-3)) => absurd z (by decide)) (fun (_ : ¬ ((-2) < (-3))) => ?_)
      refine R_s (P := True) (f' := (9, [some (vR 1), some (vI (-3))], [vI (-8), vI (-3)], LAY (shA A) (shF F), 0, 0)) hc93 2 rfl trivial ?_
      refine R_ic (t := 23) hc93 rfl rfl (fun (z : (-3) < (-8)) => absurd z (by decide)) (fun (_ : ¬ ((-3) < (-8))) => ?_)
      refine R_s (P := inI 3 ∧ (0 ≤ 3 ∧ 3 < ((A 87).length : Int)) ∧ inI ((rd (A 87) 3) + 1) ∧ (0 ≤ 3 ∧ 3 < ((A 87).length : Int)) ∧ True) (f' := (24, [some (vR 1), some (vI (-3))], [vI (-3)], LAY (u (shA A) 87 (wr (A 87) 3 ((rd (A 87) 3) + 1))) (shF F), 0, 0)) hc93 10 rfl ⟨⟨by omega, by omega⟩, ⟨by omega, by omega⟩, ⟨by omega, by omega⟩, ⟨by omega, by omega⟩, trivial⟩ ?_
      refine R_reti hc93 rfl rfl ?_
      refine R_s (f' := (29, [some (vR 1), some (vI 5), some (vI p), some (vI g), some (vR 65), none, none, none, none, none], [vI (-3)], LAY (u (shA A) 87 (wr (A 87) 3 ((rd (A 87) 3) + 1))) (shF F), 0, 0)) hc80 0 rfl trivial ?_
      refine R_reti hc80 rfl rfl ⟨⟨_, rfl⟩, ⟨_, _, rfl, rfl⟩, ?_⟩
      refine R_s (P := True) (f' := (2, [some (vR 88), some (vI 5), some (vI p), some (vI g), none, none, none, none, none, none], [vI 5, vR 88], LAY (u (shA A) 87 (wr (A 87) 3 ((rd (A 87) 3) + 1))) (shF F), 0, 0)) hc154 2 rfl trivial ?_
      refine R_cv hc154 rfl rfl ?_ (fun r G h => h)
      refine R_s (P := inI ((F 0) - 1) ∧ True) (f' := (8, [some (vR 88), some (vI 5)], [vI ((F 0) - 1), vI 0, vI 5], LAY (u (shA A) 87 (wr (A 87) 3 ((rd (A 87) 3) + 1))) (shF F), 0, 0)) hc108 6 rfl ⟨⟨by omega, by omega⟩, trivial⟩ ?_
      refine R_cs hc108 rfl rfl ?_ (fun r G h => h)
      refine R_s (P := True) (f' := (2, [some (vI 5), some (vI 0), some (vI ((F 0) - 1))], [vI 0, vI 5], LAY (u (shA A) 87 (wr (A 87) 3 ((rd (A 87) 3) + 1))) (shF F), 0, 0)) hc104 2 rfl trivial ?_
      refine R_ic (t := 14) hc104 rfl rfl (fun (z : 5 < 0) => absurd z (by decide)) (fun (_ : ¬ (5 < 0)) => ?_)
      refine R_s (P := True) (f' := (7, [some (vI 5), some (vI 0), some (vI ((F 0) - 1))], [vI ((F 0) - 1), vI 5], LAY (u (shA A) 87 (wr (A 87) 3 ((rd (A 87) 3) + 1))) (shF F), 0, 0)) hc104 2 rfl trivial ?_
      refine R_ic (t := 14) hc104 rfl rfl (fun (z : (F 0) - 1 < 5) => absurd z (by omega)) (fun (_ : ¬ ((F 0) - 1 < 5)) => ?_)
      refine R_s (P := True) (f' := (15, [some (vI 5), some (vI 0), some (vI ((F 0) - 1))], [vI 1], LAY (u (shA A) 87 (wr (A 87) 3 ((rd (A 87) 3) + 1))) (shF F), 0, 0)) hc104 2 rfl trivial ?_
      refine R_retz hc104 rfl rfl (Or.inr rfl) ?_
      refine R_s (f' := (11, [some (vR 88), some (vI 5)], [vI 1], LAY (u (shA A) 87 (wr (A 87) 3 ((rd (A 87) 3) + 1))) (shF F), 0, 0)) hc108 0 rfl trivial ?_
      refine R_retz hc108 rfl rfl (Or.inr rfl) ?_
      refine R_s (f' := (5, [some (vR 88), some (vI 5), some (vI p), some (vI g), none, none, none, none, none, none], [vI 1], LAY (u (shA A) 87 (wr (A 87) 3 ((rd (A 87) 3) + 1))) (shF F), 0, 0)) hc154 0 rfl trivial ?_
      refine R_if (t := 16) hc154 rfl rfl (fun (z : 1 = 0) => absurd z (by decide)) (fun (_ : ¬ (1 = 0)) => ?_)
      refine R_s (P := True) (f' := (10, [some (vR 88), some (vI 5), some (vI p), some (vI g), none, none, none, none, none, none], [vI p, vR 88], LAY (u (shA A) 87 (wr (A 87) 3 ((rd (A 87) 3) + 1))) (shF F), 0, 0)) hc154 2 rfl trivial ?_
      refine R_cv hc154 rfl rfl ?_ (fun r G h => h)
      refine R_s (P := inI ((F 3) - 1) ∧ True) (f' := (8, [some (vR 88), some (vI p)], [vI ((F 3) - 1), vI 0, vI p], LAY (u (shA A) 87 (wr (A 87) 3 ((rd (A 87) 3) + 1))) (shF F), 0, 0)) hc106 6 rfl ⟨⟨by omega, by omega⟩, trivial⟩ ?_
      refine R_cs hc106 rfl rfl ?_ (fun r G h => h)
      refine R_s (P := True) (f' := (2, [some (vI p), some (vI 0), some (vI ((F 3) - 1))], [vI 0, vI p], LAY (u (shA A) 87 (wr (A 87) 3 ((rd (A 87) 3) + 1))) (shF F), 0, 0)) hc104 2 rfl trivial ?_
      refine R_ic (t := 14) hc104 rfl rfl (fun (z : p < 0) => absurd z (by omega)) (fun (_ : ¬ (p < 0)) => ?_)
      refine R_s (P := True) (f' := (7, [some (vI p), some (vI 0), some (vI ((F 3) - 1))], [vI ((F 3) - 1), vI p], LAY (u (shA A) 87 (wr (A 87) 3 ((rd (A 87) 3) + 1))) (shF F), 0, 0)) hc104 2 rfl trivial ?_
      refine R_ic (t := 14) hc104 rfl rfl (fun (_ : (F 3) - 1 < p) => ?_) (fun (z : ¬ ((F 3) - 1 < p)) => absurd (show (F 3) - 1 < p by omega) z)
      refine R_s (P := True) (f' := (15, [some (vI p), some (vI 0), some (vI ((F 3) - 1))], [vI 0], LAY (u (shA A) 87 (wr (A 87) 3 ((rd (A 87) 3) + 1))) (shF F), 0, 0)) hc104 1 rfl trivial ?_
      refine R_retz hc104 rfl rfl (Or.inl rfl) ?_
      refine R_s (f' := (11, [some (vR 88), some (vI p)], [vI 0], LAY (u (shA A) 87 (wr (A 87) 3 ((rd (A 87) 3) + 1))) (shF F), 0, 0)) hc106 0 rfl trivial ?_
      refine R_retz hc106 rfl rfl (Or.inl rfl) ?_
      refine R_s (f' := (13, [some (vR 88), some (vI 5), some (vI p), some (vI g), none, none, none, none, none, none], [vI 0], LAY (u (shA A) 87 (wr (A 87) 3 ((rd (A 87) 3) + 1))) (shF F), 0, 0)) hc154 0 rfl trivial ?_
      refine R_if (t := 23) hc154 rfl rfl (fun (z : ¬ 0 = 0) => absurd z (by decide)) (fun (_ : ¬ (¬ 0 = 0)) => ?_)
      refine R_s (P := True) (f' := (19, [some (vR 88), some (vI 5), some (vI p), some (vI g), none, none, none, none, none, none], [vI (-3), vR 88], LAY (u (shA A) 87 (wr (A 87) 3 ((rd (A 87) 3) + 1))) (shF F), 0, 0)) hc154 2 rfl trivial ?_
      refine R_cv hc154 rfl rfl ?_ (fun r G h => h)
      refine R_s (P := inI 3 ∧ (0 ≤ 3 ∧ 3 < ((A 87).length : Int)) ∧ inI ((rd (A 87) 3) + 1) ∧ (0 ≤ 3 ∧ 3 < ((A 87).length : Int)) ∧ True) (f' := (12, [some (vR 88), some (vI (-3))], [vI (-3)], LAY (u (u (shA A) 87 (wr (A 87) 3 ((rd (A 87) 3) + 1))) 89 (wr (A 87) 3 ((rd (A 87) 3) + 1))) (shF F), 0, 0)) hc105 10 rfl ⟨⟨by omega, by omega⟩, ⟨by omega, by omega⟩, ⟨by omega, by omega⟩, ⟨by omega, by omega⟩, trivial⟩ ?_
      refine R_reti hc105 rfl rfl ?_
      refine R_s (f' := (22, [some (vR 88), some (vI 5), some (vI p), some (vI g), none, none, none, none, none, none], [vI (-3)], LAY (u (u (shA A) 87 (wr (A 87) 3 ((rd (A 87) 3) + 1))) 89 (wr (A 87) 3 ((rd (A 87) 3) + 1))) (shF F), 0, 0)) hc154 0 rfl trivial ?_
      refine R_reti hc154 rfl rfl ?_
      first
        | (exfalso; omega; done)
        | exact ⟨rfl, (u A 87 (wr (A 87) 3 ((rd (A 87) 3) + 1))), F, rfl, rfl, REL_ref hR0 (by decide) (by decide)⟩
    · refine R_s (P := True) (f' := (17, [some (vR 2), some (vI p)], [vI 1], LAY (shA A) (shF F), 0, 0)) hc5 2 rfl trivial ?_
      refine R_retz hc5 rfl rfl (Or.inr rfl) ?_
      refine R_s (f' := (20, [some (vR 1), some (vI 5), some (vI p), some (vI g), some (vR 65), none, none, none, none, none], [vI 1], LAY (shA A) (shF F), 0, 0)) hc80 0 rfl trivial ?_
      refine R_if (t := 30) hc80 rfl rfl (fun (_ : ¬ 1 = 0) => ?_) (fun (z : ¬ (¬ 1 = 0)) => absurd (by decide) z)
      refine R_s (P := True) (f' := (35, [some (vR 1), some (vI 5), some (vI p), some (vI g), some (vR 65), none, none, none, none, none], [vI 5, vR 12], LAY (shA A) (shF F), 0, 0)) hc80 3 rfl trivial ?_
      refine R_cv hc80 rfl rfl (l_yieldC (A := (shA A)) (F := (shF F)) (LENS_sh hL) ⟨t1, t2⟩ 5 (by decide) (fun i hi => R_prod hR0 (d := 5) (by decide) i hi)) (fun r G9 hp9 => ?_)
      obtain ⟨e1, rfl⟩ := hp9
      have e2 : r = some (vI (N_Y A F 5)) := e1
      clear e1
      subst e2
      refine R_s (f' := (38, [some (vR 1), some (vI 5), some (vI p), some (vI g), some (vR 65), none, none, none, none, none], [vI (N_Y A F 5)], LAY (shA A) (shF F), 0, 0)) hc80 0 rfl trivial ?_
      refine R_s (P := True) (f' := (49, [some (vR 1), some (vI 5), some (vI p), some (vI g), some (vR 65), some (vI (N_Y A F 5)), none, none, none, none], [vI (F 2), vR 2, vI 1], LAY (shA A) (shF F), 0, 0)) hc80 6 rfl trivial ?_
      refine R_cv hc80 rfl rfl (l_doubtful (A := (shA A)) (F := (shF F)) (n := (F 3).toNat) (LENS_sh hL) (R_n hR0) (R_n30 hR0) (yr := F 2)) (fun r G9 hp9 => ?_)
      obtain ⟨rfl, rfl⟩ := hp9
      refine R_s (f' := (52, [some (vR 1), some (vI 5), some (vI p), some (vI g), some (vR 65), some (vI (N_Y A F 5)), none, none, none, none], [vI ((rk (F 2) (A 4) (A 6) (F 3).toNat : Nat) : Int), vI 1], LAY (shA A) (shF F), 0, 0)) hc80 0 rfl trivial ?_
      refine R_s (P := (0 ≤ ((rk (F 2) (A 4) (A 6) (F 3).toNat : Nat) : Int) ∧ ((rk (F 2) (A 4) (A 6) (F 3).toNat : Nat) : Int) < 31 ∧ 0 ≤ 1 ∧ 1 * 2 ^ (((rk (F 2) (A 4) (A 6) (F 3).toNat : Nat) : Int) : Int).toNat ≤ 2147483647) ∧ True) (f' := (61, [some (vR 1), some (vI 5), some (vI p), some (vI g), some (vR 65), some (vI (N_Y A F 5)), some (vI (1 * 2 ^ (((rk (F 2) (A 4) (A 6) (F 3).toNat : Nat) : Int) : Int).toNat)), some (vI 0), some (vI 0), none], [], LAY (shA A) (shF F), 0, 0)) hc80 6 rfl ⟨⟨by omega, by omega, by omega, by (rw [Int.toNat_natCast, Int.one_mul]; have z2 : ((2 ^ rk (F 2) (A 4) (A 6) (F 3).toNat : Nat) : Int) ≤ 32 := (by omega); push_cast at z2; omega)⟩, trivial⟩ ?_
      refine bound_C5 hR0 hd (p := p) (g := g) ⟨by omega, by omega⟩ rfl (by rw [Int.toNat_natCast, Int.one_mul]; push_cast; rfl) (fun b x v9 l8 l9 l10 l11 l75 l76 l77 l78 k8 k9 k10 k11 k75 k76 k77 k78 v14 v15 hB => ?_)
      refine R_s (P := True) (f' := (149, [some (vR 1), some (vI 5), some (vI p), some (vI g), some (vR 65), some (vI (N_Y A F 5)), some (vI (1 * 2 ^ (((rk (F 2) (A 4) (A 6) (F 3).toNat : Nat) : Int) : Int).toNat)), some (vI b), some (vI x), v9], [vI b], LAY (u (u (u (u (u (u (u (u (shA A) 8 l8) 9 l9) 10 l10) 11 l11) 75 l75) 76 l76) 77 l77) 78 l78) (u (u (shF F) 14 v14) 15 v15), 0, 0)) hc80 1 rfl trivial ?_
      refine R_reti hc80 rfl rfl ⟨⟨_, rfl⟩, ⟨_, _, rfl, rfl⟩, ?_⟩
      refine R_s (P := True) (f' := (2, [some (vR 88), some (vI 5), some (vI p), some (vI g), none, none, none, none, none, none], [vI 5, vR 88], LAY (u (u (u (u (u (u (u (u (shA A) 8 l8) 9 l9) 10 l10) 11 l11) 75 l75) 76 l76) 77 l77) 78 l78) (u (u (shF F) 14 v14) 15 v15), 0, 0)) hc154 2 rfl trivial ?_
      refine R_cv hc154 rfl rfl ?_ (fun r G h => h)
      refine R_s (P := inI ((F 0) - 1) ∧ True) (f' := (8, [some (vR 88), some (vI 5)], [vI ((F 0) - 1), vI 0, vI 5], LAY (u (u (u (u (u (u (u (u (shA A) 8 l8) 9 l9) 10 l10) 11 l11) 75 l75) 76 l76) 77 l77) 78 l78) (u (u (shF F) 14 v14) 15 v15), 0, 0)) hc108 6 rfl ⟨⟨by omega, by omega⟩, trivial⟩ ?_
      refine R_cs hc108 rfl rfl ?_ (fun r G h => h)
      refine R_s (P := True) (f' := (2, [some (vI 5), some (vI 0), some (vI ((F 0) - 1))], [vI 0, vI 5], LAY (u (u (u (u (u (u (u (u (shA A) 8 l8) 9 l9) 10 l10) 11 l11) 75 l75) 76 l76) 77 l77) 78 l78) (u (u (shF F) 14 v14) 15 v15), 0, 0)) hc104 2 rfl trivial ?_
      refine R_ic (t := 14) hc104 rfl rfl (fun (z : 5 < 0) => absurd z (by decide)) (fun (_ : ¬ (5 < 0)) => ?_)
      refine R_s (P := True) (f' := (7, [some (vI 5), some (vI 0), some (vI ((F 0) - 1))], [vI ((F 0) - 1), vI 5], LAY (u (u (u (u (u (u (u (u (shA A) 8 l8) 9 l9) 10 l10) 11 l11) 75 l75) 76 l76) 77 l77) 78 l78) (u (u (shF F) 14 v14) 15 v15), 0, 0)) hc104 2 rfl trivial ?_
      refine R_ic (t := 14) hc104 rfl rfl (fun (z : (F 0) - 1 < 5) => absurd z (by omega)) (fun (_ : ¬ ((F 0) - 1 < 5)) => ?_)
      refine R_s (P := True) (f' := (15, [some (vI 5), some (vI 0), some (vI ((F 0) - 1))], [vI 1], LAY (u (u (u (u (u (u (u (u (shA A) 8 l8) 9 l9) 10 l10) 11 l11) 75 l75) 76 l76) 77 l77) 78 l78) (u (u (shF F) 14 v14) 15 v15), 0, 0)) hc104 2 rfl trivial ?_
      refine R_retz hc104 rfl rfl (Or.inr rfl) ?_
      refine R_s (f' := (11, [some (vR 88), some (vI 5)], [vI 1], LAY (u (u (u (u (u (u (u (u (shA A) 8 l8) 9 l9) 10 l10) 11 l11) 75 l75) 76 l76) 77 l77) 78 l78) (u (u (shF F) 14 v14) 15 v15), 0, 0)) hc108 0 rfl trivial ?_
      refine R_retz hc108 rfl rfl (Or.inr rfl) ?_
      refine R_s (f' := (5, [some (vR 88), some (vI 5), some (vI p), some (vI g), none, none, none, none, none, none], [vI 1], LAY (u (u (u (u (u (u (u (u (shA A) 8 l8) 9 l9) 10 l10) 11 l11) 75 l75) 76 l76) 77 l77) 78 l78) (u (u (shF F) 14 v14) 15 v15), 0, 0)) hc154 0 rfl trivial ?_
      refine R_if (t := 16) hc154 rfl rfl (fun (z : 1 = 0) => absurd z (by decide)) (fun (_ : ¬ (1 = 0)) => ?_)
      refine R_s (P := True) (f' := (10, [some (vR 88), some (vI 5), some (vI p), some (vI g), none, none, none, none, none, none], [vI p, vR 88], LAY (u (u (u (u (u (u (u (u (shA A) 8 l8) 9 l9) 10 l10) 11 l11) 75 l75) 76 l76) 77 l77) 78 l78) (u (u (shF F) 14 v14) 15 v15), 0, 0)) hc154 2 rfl trivial ?_
      refine R_cv hc154 rfl rfl ?_ (fun r G h => h)
      refine R_s (P := inI ((F 3) - 1) ∧ True) (f' := (8, [some (vR 88), some (vI p)], [vI ((F 3) - 1), vI 0, vI p], LAY (u (u (u (u (u (u (u (u (shA A) 8 l8) 9 l9) 10 l10) 11 l11) 75 l75) 76 l76) 77 l77) 78 l78) (u (u (shF F) 14 v14) 15 v15), 0, 0)) hc106 6 rfl ⟨⟨by omega, by omega⟩, trivial⟩ ?_
      refine R_cs hc106 rfl rfl ?_ (fun r G h => h)
      refine R_s (P := True) (f' := (2, [some (vI p), some (vI 0), some (vI ((F 3) - 1))], [vI 0, vI p], LAY (u (u (u (u (u (u (u (u (shA A) 8 l8) 9 l9) 10 l10) 11 l11) 75 l75) 76 l76) 77 l77) 78 l78) (u (u (shF F) 14 v14) 15 v15), 0, 0)) hc104 2 rfl trivial ?_
      refine R_ic (t := 14) hc104 rfl rfl (fun (z : p < 0) => absurd z (by omega)) (fun (_ : ¬ (p < 0)) => ?_)
      refine R_s (P := True) (f' := (7, [some (vI p), some (vI 0), some (vI ((F 3) - 1))], [vI ((F 3) - 1), vI p], LAY (u (u (u (u (u (u (u (u (shA A) 8 l8) 9 l9) 10 l10) 11 l11) 75 l75) 76 l76) 77 l77) 78 l78) (u (u (shF F) 14 v14) 15 v15), 0, 0)) hc104 2 rfl trivial ?_
      refine R_ic (t := 14) hc104 rfl rfl (fun (z : (F 3) - 1 < p) => absurd z (by omega)) (fun (_ : ¬ ((F 3) - 1 < p)) => ?_)
      refine R_s (P := True) (f' := (15, [some (vI p), some (vI 0), some (vI ((F 3) - 1))], [vI 1], LAY (u (u (u (u (u (u (u (u (shA A) 8 l8) 9 l9) 10 l10) 11 l11) 75 l75) 76 l76) 77 l77) 78 l78) (u (u (shF F) 14 v14) 15 v15), 0, 0)) hc104 2 rfl trivial ?_
      refine R_retz hc104 rfl rfl (Or.inr rfl) ?_
      refine R_s (f' := (11, [some (vR 88), some (vI p)], [vI 1], LAY (u (u (u (u (u (u (u (u (shA A) 8 l8) 9 l9) 10 l10) 11 l11) 75 l75) 76 l76) 77 l77) 78 l78) (u (u (shF F) 14 v14) 15 v15), 0, 0)) hc106 0 rfl trivial ?_
      refine R_retz hc106 rfl rfl (Or.inr rfl) ?_
      refine R_s (f' := (13, [some (vR 88), some (vI 5), some (vI p), some (vI g), none, none, none, none, none, none], [vI 1], LAY (u (u (u (u (u (u (u (u (shA A) 8 l8) 9 l9) 10 l10) 11 l11) 75 l75) 76 l76) 77 l77) 78 l78) (u (u (shF F) 14 v14) 15 v15), 0, 0)) hc154 0 rfl trivial ?_
      refine R_if (t := 23) hc154 rfl rfl (fun (_ : ¬ 1 = 0) => ?_) (fun (z : ¬ (¬ 1 = 0)) => absurd (by decide) z)
      refine R_mono (bound_M hR0 (A0 := (u (u (u (u (u (u (u (u (shA A) 8 l8) 9 l9) 10 l10) 11 l11) 75 l75) 76 l76) 77 l77) 78 l78)) (F0 := (u (u (shF F) 14 v14) 15 v15)) rfl rfl rfl rfl rfl rfl rfl rfl rfl rfl rfl rfl rfl rfl (hL 109 (by decide)) (hL 104 (by decide)) (hL 105 (by decide)) (hL 110 (by decide)) (hL 111 (by decide)) (hL 108 (by decide)) (hL 107 (by decide)) hD.1 hD.2 rfl (p := p) (g := g) ⟨by omega, by omega⟩) (fun r8 G8 hp8 => ?_)
      obtain ⟨b2, l109, l104, l105, l110, l111, l108, l107, v28, v29, v30, v31, rfl, hB2, rfl, k109, k104, k105, k110, k111, k108, k107⟩ := hp8
      have e8 : b2 = b := BEST_eq hB hB2 (fun i _ => by
        obtain ⟨w1, h1, h2⟩ := way_CM (A := A) (F := F) i
        exact ⟨w1, h1, by unfold vW; rw [h2]⟩) (fun j _ => by
        obtain ⟨w1, h1, h2⟩ := way_MC (A := A) (F := F) j
        exact ⟨w1, h1, by unfold vW; rw [h2]⟩)
      first
        | (exfalso; omega; done)
        | exact ⟨(by rw [show b2 = b by omega]), (u (u (u (u (u (u (u (u (u (u (u (u (u (u (u A 8 l8) 9 l9) 10 l10) 11 l11) 75 l75) 76 l76) 77 l77) 78 l78) 109 l109) 104 l104) 105 l105) 110 l110) 111 l111) 108 l108) 107 l107), (u (u (u (u (u (u F 14 v14) 15 v15) 28 v28) 29 v29) 30 v30) 31 v31), rfl, rfl, ⟨(LENS_u (LENS_u (LENS_u (LENS_u (LENS_u (LENS_u (LENS_u (LENS_u (LENS_u (LENS_u (LENS_u (LENS_u (LENS_u (LENS_u (LENS_u hL (by show (l8).length = (A 8).length; rw [k8, hL 8 (by decide)]; rfl)) (by show (l9).length = (A 9).length; rw [k9, hL 9 (by decide)]; rfl)) (by show (l10).length = (A 10).length; rw [k10, hL 10 (by decide)]; rfl)) (by show (l11).length = (A 11).length; rw [k11, hL 11 (by decide)]; rfl)) (by show (l75).length = (A 75).length; rw [k75, hL 75 (by decide)]; rfl)) (by show (l76).length = (A 76).length; rw [k76, hL 76 (by decide)]; rfl)) (by show (l77).length = (A 77).length; rw [k77, hL 77 (by decide)]; rfl)) (by show (l78).length = (A 78).length; rw [k78, hL 78 (by decide)]; rfl)) (by show (l109).length = (A 109).length; rw [k109, hL 109 (by decide)]; rfl)) (by show (l104).length = (A 104).length; rw [k104, hL 104 (by decide)]; rfl)) (by show (l105).length = (A 105).length; rw [k105, hL 105 (by decide)]; rfl)) (by show (l110).length = (A 110).length; rw [k110, hL 110 (by decide)]; rfl)) (by show (l111).length = (A 111).length; rw [k111, hL 111 (by decide)]; rfl)) (by show (l108).length = (A 108).length; rw [k108, hL 108 (by decide)]; rfl)) (by show (l107).length = (A 107).length; rw [k107, hL 107 (by decide)]; rfl)), hR0.2.1, hR0.2.2.1, hR0.2.2.2.1, hR0.2.2.2.2.1, hR0.2.2.2.2.2.1, hR0.2.2.2.2.2.2.1, hR0.2.2.2.2.2.2.2.1, hR0.2.2.2.2.2.2.2.2.1, (REFU_c hR0.2.2.2.2.2.2.2.2.2)⟩⟩

theorem op_bound {c : Int} {A : Nat → List Int} {F : Nat → Int} (hR : REL c A F) (hc : c < 512) (d p g : Int) (i_d : inI d) (i_p : inI p) (i_g : inI g) (hx : g = 0 ∨ g = 1) : R 80 (0, L0 80 [vR 1, vI d, vI p, vI g], [], LAY (shA A) (shF F), 0, 0) (fun r G => (∃ x, r = some (vI x)) ∧ (∃ (A1 : Nat → List Int) (F1 : Nat → Int), G = LAY A1 F1 ∧ A1 0 = A 0) ∧ R 154 (0, L0 154 [vR 88, vI d, vI p, vI g], [], G, 0, 0) (fun r2 G2 => r2 = r ∧ ∃ (A' : Nat → List Int) (F' : Nat → Int), G2 = LAY (shA A') (shF F') ∧ A' 0 = A 0 ∧ REL (c + 1) A' F')) := by
  by_cases h0 : d < 0
  · exact op_bound_n hR hc d p g i_d i_p i_g h0 hx
  by_cases h1 : F 0 ≤ d
  · exact op_bound_b hR hc d p g i_d i_p i_g ⟨by omega, h1⟩ hx
  have h6 := hR.2.2.2.2.1.1.2
  obtain e | e | e | e | e | e : d = 0 ∨ d = 1 ∨ d = 2 ∨ d = 3 ∨ d = 4 ∨ d = 5 := by omega
  all_goals subst e
  · exact op_bound_0 hR hc p g i_p i_g (by omega) hx
  · exact op_bound_1 hR hc p g i_p i_g (by omega) hx
  · exact op_bound_2 hR hc p g i_p i_g (by omega) hx
  · exact op_bound_3 hR hc p g i_p i_g (by omega) hx
  · exact op_bound_4 hR hc p g i_p i_g (by omega) hx
  · exact op_bound_5 hR hc p g i_p i_g (by omega) hx

