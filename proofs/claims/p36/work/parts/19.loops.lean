def sm (g : Nat → Int) : Nat → Int
  | 0 => 0
  | n + 1 => sm g n + g n
theorem sm_bd {g : Nat → Int} {b : Int} : ∀ n : Nat, (∀ i, i < n → 0 ≤ g i ∧ g i ≤ b) → 0 ≤ sm g n ∧ sm g n ≤ n * b
  | 0, _ => by simp [sm]
  | n + 1, h => by
    have h1 := sm_bd n (fun i hi => h i (by omega))
    have h2 := h n (by omega)
    simp only [sm]
    have e : ((n + 1 : Nat) : Int) * b = n * b + b := by push_cast; rw [Int.add_mul, Int.one_mul]
    rw [e]
    omega
theorem sm_cb (l : List Int) (n : Nat) : sm (fun i => if rd l i = 0 then 0 else 1) n = cb l n := by
  induction n with
  | zero => rfl
  | succ n ih => simp only [sm, cb, ih]
theorem cb_wr {l : List Int} {p v : Int} (h0 : 0 ≤ p) (h1 : p < l.length) (n : Nat) : cb (wr l p v) n = cb l n + (if p < n then (if v = 0 then 0 else 1) - (if rd l p = 0 then 0 else 1) else 0) := by
  induction n with
  | zero => rw [if_neg (by omega)]; rfl
  | succ n ih =>
    simp only [cb]
    rw [ih, rd_wr h0 h1 (by omega)]
    by_cases e : (n : Int) = p
    · subst e
      (repeat' split) <;> omega
    · (repeat' split) <;> omega
theorem l_unsure {A : Nat → List Int} {F : Nat → Int} (hL : LENS A) (hn : 0 ≤ F 3 ∧ F 3 ≤ 30)  : R 10 (0, L0 10 [vR 2], [], LAY A F, 0, 0) (fun r G => r = some (vI (sm (fun i => if rd (A 6) i = 0 then 0 else 1) (F 3).toNat)) ∧ G = LAY A F) := by
  have h6 : (A 6).length = 30 := hL 6 (by decide)
  have lp : ∀ (m i : Nat) (s x : Int), x = (i : Int) → s = sm (fun i => if rd (A 6) i = 0 then 0 else 1) i → i ≤ (F 3).toNat → (F 3).toNat + 1 ≤ i + m → R 10 (4, [some (vR 2), some (vI s), some (vI x)], [], LAY A F, 0, 0) (fun r G => r = some (vI (sm (fun i => if rd (A 6) i = 0 then 0 else 1) (F 3).toNat)) ∧ G = LAY A F) := by
    intro m
    induction m with
    | zero =>
      intro i s x ex es hi hm
      exact absurd hm (by omega)
    | succ m ih =>
      intro i s x ex es hi hm
      have hb := sm_bd (g := fun i => if rd (A 6) i = 0 then 0 else 1) (b := 1) i (fun j hj => by (try dsimp only); split <;> omega)
      rw [← es] at hb
      refine R_s (P := True) (f' := (9, [some (vR 2), some (vI s), some (vI x)], [vI (F 3), vI x], LAY A F, 0, 0)) hc10 3 rfl trivial ?_
      refine R_ic (t := 35) hc10 rfl rfl (fun (c1 : F 3 ≤ x) => ?_) (fun (c1 : ¬ (F 3 ≤ x)) => ?_)
      · refine R_s (P := True) (f' := (36, [some (vR 2), some (vI s), some (vI x)], [vI s], LAY A F, 0, 0)) hc10 1 rfl trivial ?_
        exact R_reti hc10 rfl rfl ⟨by rw [es, show i = (F 3).toNat by omega], rfl⟩
      · refine R_s (P := (0 ≤ x ∧ x < ((A 6).length : Int)) ∧ True) (f' := (19, [some (vR 2), some (vI s), some (vI x)], [vI (rd (A 6) x), vI s], LAY A F, 0, 0)) hc10 5 rfl ⟨⟨by omega, by omega⟩, trivial⟩ ?_
        refine R_if (t := 26) hc10 rfl rfl (fun (c2 : rd (A 6) x = 0) => ?_) (fun (c2 : ¬ (rd (A 6) x = 0)) => ?_)
        · refine R_s (P := inI (s + 0) ∧ inI (x + 1) ∧ True) (f' := (4, [some (vR 2), some (vI (s + 0)), some (vI (x + 1))], [], LAY A F, 0, 0)) hc10 5 rfl ⟨⟨by omega, by omega⟩, ⟨by omega, by omega⟩, trivial⟩ ?_
          exact ih (i + 1) _ _ (by push_cast; omega) (by subst es; subst ex; simp only [sm]; split <;> omega) (by omega) (by omega)
        · refine R_s (P := inI (s + 1) ∧ inI (x + 1) ∧ True) (f' := (4, [some (vR 2), some (vI (s + 1)), some (vI (x + 1))], [], LAY A F, 0, 0)) hc10 6 rfl ⟨⟨by omega, by omega⟩, ⟨by omega, by omega⟩, trivial⟩ ?_
          exact ih (i + 1) _ _ (by push_cast; omega) (by subst es; subst ex; simp only [sm]; split <;> omega) (by omega) (by omega)
  refine R_s (P := True) (f' := (4, [some (vR 2), some (vI 0), some (vI 0)], [], LAY A F, 0, 0)) hc10 4 rfl trivial ?_
  exact lp ((F 3).toNat + 1) 0 _ _ rfl rfl (by omega) (by omega)
theorem l_aliveCount {A : Nat → List Int} {F : Nat → Int} (hL : LENS A) (hn : 0 ≤ F 3 ∧ F 3 ≤ 30)  : R 13 (0, L0 13 [vR 2], [], LAY A F, 0, 0) (fun r G => r = some (vI (sm (fun i => if rd (A 8) i = 0 then 0 else 1) (F 3).toNat)) ∧ G = LAY A F) := by
  have h8 : (A 8).length = 30 := hL 8 (by decide)
  have lp : ∀ (m i : Nat) (s x : Int), x = (i : Int) → s = sm (fun i => if rd (A 8) i = 0 then 0 else 1) i → i ≤ (F 3).toNat → (F 3).toNat + 1 ≤ i + m → R 13 (4, [some (vR 2), some (vI s), some (vI x)], [], LAY A F, 0, 0) (fun r G => r = some (vI (sm (fun i => if rd (A 8) i = 0 then 0 else 1) (F 3).toNat)) ∧ G = LAY A F) := by
    intro m
    induction m with
    | zero =>
      intro i s x ex es hi hm
      exact absurd hm (by omega)
    | succ m ih =>
      intro i s x ex es hi hm
      have hb := sm_bd (g := fun i => if rd (A 8) i = 0 then 0 else 1) (b := 1) i (fun j hj => by (try dsimp only); split <;> omega)
      rw [← es] at hb
      refine R_s (P := True) (f' := (9, [some (vR 2), some (vI s), some (vI x)], [vI (F 3), vI x], LAY A F, 0, 0)) hc13 3 rfl trivial ?_
      refine R_ic (t := 35) hc13 rfl rfl (fun (c1 : F 3 ≤ x) => ?_) (fun (c1 : ¬ (F 3 ≤ x)) => ?_)
      · refine R_s (P := True) (f' := (36, [some (vR 2), some (vI s), some (vI x)], [vI s], LAY A F, 0, 0)) hc13 1 rfl trivial ?_
        exact R_reti hc13 rfl rfl ⟨by rw [es, show i = (F 3).toNat by omega], rfl⟩
      · refine R_s (P := (0 ≤ x ∧ x < ((A 8).length : Int)) ∧ True) (f' := (19, [some (vR 2), some (vI s), some (vI x)], [vI (rd (A 8) x), vI s], LAY A F, 0, 0)) hc13 5 rfl ⟨⟨by omega, by omega⟩, trivial⟩ ?_
        refine R_if (t := 26) hc13 rfl rfl (fun (c2 : rd (A 8) x = 0) => ?_) (fun (c2 : ¬ (rd (A 8) x = 0)) => ?_)
        · refine R_s (P := inI (s + 0) ∧ inI (x + 1) ∧ True) (f' := (4, [some (vR 2), some (vI (s + 0)), some (vI (x + 1))], [], LAY A F, 0, 0)) hc13 5 rfl ⟨⟨by omega, by omega⟩, ⟨by omega, by omega⟩, trivial⟩ ?_
          exact ih (i + 1) _ _ (by push_cast; omega) (by subst es; subst ex; simp only [sm]; split <;> omega) (by omega) (by omega)
        · refine R_s (P := inI (s + 1) ∧ inI (x + 1) ∧ True) (f' := (4, [some (vR 2), some (vI (s + 1)), some (vI (x + 1))], [], LAY A F, 0, 0)) hc13 6 rfl ⟨⟨by omega, by omega⟩, ⟨by omega, by omega⟩, trivial⟩ ?_
          exact ih (i + 1) _ _ (by push_cast; omega) (by subst es; subst ex; simp only [sm]; split <;> omega) (by omega) (by omega)
  refine R_s (P := True) (f' := (4, [some (vR 2), some (vI 0), some (vI 0)], [], LAY A F, 0, 0)) hc13 4 rfl trivial ?_
  exact lp ((F 3).toNat + 1) 0 _ _ rfl rfl (by omega) (by omega)
theorem l_holding {A : Nat → List Int} {F : Nat → Int} (hL : LENS A) (hn : 0 ≤ F 16 ∧ F 16 ≤ 30)  : R 25 (0, L0 25 [vR 79], [], LAY A F, 0, 0) (fun r G => r = some (vI (sm (fun i => if rd (A 83) i = 0 then 0 else 1) (F 16).toNat)) ∧ G = LAY A F) := by
  have h83 : (A 83).length = 30 := hL 83 (by decide)
  have lp : ∀ (m i : Nat) (s x : Int), x = (i : Int) → s = sm (fun i => if rd (A 83) i = 0 then 0 else 1) i → i ≤ (F 16).toNat → (F 16).toNat + 1 ≤ i + m → R 25 (4, [some (vR 79), some (vI s), some (vI x)], [], LAY A F, 0, 0) (fun r G => r = some (vI (sm (fun i => if rd (A 83) i = 0 then 0 else 1) (F 16).toNat)) ∧ G = LAY A F) := by
    intro m
    induction m with
    | zero =>
      intro i s x ex es hi hm
      exact absurd hm (by omega)
    | succ m ih =>
      intro i s x ex es hi hm
      have hb := sm_bd (g := fun i => if rd (A 83) i = 0 then 0 else 1) (b := 1) i (fun j hj => by (try dsimp only); split <;> omega)
      rw [← es] at hb
      refine R_s (P := True) (f' := (9, [some (vR 79), some (vI s), some (vI x)], [vI (F 16), vI x], LAY A F, 0, 0)) hc25 3 rfl trivial ?_
      refine R_ic (t := 35) hc25 rfl rfl (fun (c1 : F 16 ≤ x) => ?_) (fun (c1 : ¬ (F 16 ≤ x)) => ?_)
      · refine R_s (P := True) (f' := (36, [some (vR 79), some (vI s), some (vI x)], [vI s], LAY A F, 0, 0)) hc25 1 rfl trivial ?_
        exact R_reti hc25 rfl rfl ⟨by rw [es, show i = (F 16).toNat by omega], rfl⟩
      · refine R_s (P := (0 ≤ x ∧ x < ((A 83).length : Int)) ∧ True) (f' := (19, [some (vR 79), some (vI s), some (vI x)], [vI (rd (A 83) x), vI s], LAY A F, 0, 0)) hc25 5 rfl ⟨⟨by omega, by omega⟩, trivial⟩ ?_
        refine R_if (t := 26) hc25 rfl rfl (fun (c2 : rd (A 83) x = 0) => ?_) (fun (c2 : ¬ (rd (A 83) x = 0)) => ?_)
        · refine R_s (P := inI (s + 0) ∧ inI (x + 1) ∧ True) (f' := (4, [some (vR 79), some (vI (s + 0)), some (vI (x + 1))], [], LAY A F, 0, 0)) hc25 5 rfl ⟨⟨by omega, by omega⟩, ⟨by omega, by omega⟩, trivial⟩ ?_
          exact ih (i + 1) _ _ (by push_cast; omega) (by subst es; subst ex; simp only [sm]; split <;> omega) (by omega) (by omega)
        · refine R_s (P := inI (s + 1) ∧ inI (x + 1) ∧ True) (f' := (4, [some (vR 79), some (vI (s + 1)), some (vI (x + 1))], [], LAY A F, 0, 0)) hc25 6 rfl ⟨⟨by omega, by omega⟩, ⟨by omega, by omega⟩, trivial⟩ ?_
          exact ih (i + 1) _ _ (by push_cast; omega) (by subst es; subst ex; simp only [sm]; split <;> omega) (by omega) (by omega)
  refine R_s (P := True) (f' := (4, [some (vR 79), some (vI 0), some (vI 0)], [], LAY A F, 0, 0)) hc25 4 rfl trivial ?_
  exact lp ((F 16).toNat + 1) 0 _ _ rfl rfl (by omega) (by omega)
theorem l_yieldC {A : Nat → List Int} {F : Nat → Int} (hL : LENS A) (hn : 0 ≤ F 4 ∧ F 4 ≤ 10) (d : Int) (hd : 0 ≤ d ∧ d < 6) (hY : ∀ i : Nat, (i : Int) < F 4 → 0 ≤ rd (A 14) i * rd (A 16) (i * 6 + d) ∧ rd (A 14) i * rd (A 16) (i * 6 + d) ≤ 119988) : R 56 (0, L0 56 [vR 12, vI d], [], LAY A F, 0, 0) (fun r G => r = some (vI (sm (fun i => if rd (A 15) i = 0 then rd (A 14) i * rd (A 16) (i * 6 + d) / 12 else 0) (F 4).toNat)) ∧ G = LAY A F) := by
  have h14 : (A 14).length = 10 := hL 14 (by decide)
  have h15 : (A 15).length = 10 := hL 15 (by decide)
  have h16 : (A 16).length = 60 := hL 16 (by decide)
  have lp : ∀ (m i : Nat) (s x : Int), x = (i : Int) → s = sm (fun i => if rd (A 15) i = 0 then rd (A 14) i * rd (A 16) (i * 6 + d) / 12 else 0) i → i ≤ (F 4).toNat → (F 4).toNat + 1 ≤ i + m → R 56 (4, [some (vR 12), some (vI d), some (vI s), some (vI x)], [], LAY A F, 0, 0) (fun r G => r = some (vI (sm (fun i => if rd (A 15) i = 0 then rd (A 14) i * rd (A 16) (i * 6 + d) / 12 else 0) (F 4).toNat)) ∧ G = LAY A F) := by
    intro m
    induction m with
    | zero =>
      intro i s x ex es hi hm
      exact absurd hm (by omega)
    | succ m ih =>
      intro i s x ex es hi hm
      have hb := sm_bd (g := fun i => if rd (A 15) i = 0 then rd (A 14) i * rd (A 16) (i * 6 + d) / 12 else 0) (b := 9999) i (fun j hj => by have := hY j (by omega); (try dsimp only); split <;> omega)
      rw [← es] at hb
      have hyi := hY i
      rw [← ex] at hyi
      refine R_s (P := True) (f' := (9, [some (vR 12), some (vI d), some (vI s), some (vI x)], [vI (F 4), vI x], LAY A F, 0, 0)) hc56 3 rfl trivial ?_
      refine R_ic (t := 51) hc56 rfl rfl (fun (c1 : F 4 ≤ x) => ?_) (fun (c1 : ¬ (F 4 ≤ x)) => ?_)
      · refine R_s (P := True) (f' := (52, [some (vR 12), some (vI d), some (vI s), some (vI x)], [vI s], LAY A F, 0, 0)) hc56 1 rfl trivial ?_
        exact R_reti hc56 rfl rfl ⟨by rw [es, show i = (F 4).toNat by omega], rfl⟩
      · refine R_s (P := (0 ≤ x ∧ x < ((A 15).length : Int)) ∧ True) (f' := (18, [some (vR 12), some (vI d), some (vI s), some (vI x)], [vI (rd (A 15) x)], LAY A F, 0, 0)) hc56 4 rfl ⟨⟨by omega, by omega⟩, trivial⟩ ?_
        refine R_if (t := 45) hc56 rfl rfl (fun (c2 : ¬ rd (A 15) x = 0) => ?_) (fun (c2 : ¬ (¬ rd (A 15) x = 0)) => ?_)
        · refine R_s (P := inI (x + 1) ∧ True) (f' := (4, [some (vR 12), some (vI d), some (vI s), some (vI (x + 1))], [], LAY A F, 0, 0)) hc56 2 rfl ⟨⟨by omega, by omega⟩, trivial⟩ ?_
          exact ih (i + 1) _ _ (by push_cast; omega) (by subst es; subst ex; simp only [sm]; split <;> omega) (by omega) (by omega)
        · refine R_s (P := (0 ≤ x ∧ x < ((A 14).length : Int)) ∧ inI (x * 6) ∧ inI ((x * 6) + d) ∧ (0 ≤ (x * 6) + d ∧ (x * 6) + d < ((A 16).length : Int)) ∧ inI ((rd (A 14) x) * (rd (A 16) ((x * 6) + d))) ∧ (0 ≤ (rd (A 14) x) * (rd (A 16) ((x * 6) + d)) ∧ 0 < 12) ∧ inI (s + (((rd (A 14) x) * (rd (A 16) ((x * 6) + d))) / 12)) ∧ inI (x + 1) ∧ True) (f' := (4, [some (vR 12), some (vI d), some (vI (s + (((rd (A 14) x) * (rd (A 16) ((x * 6) + d))) / 12))), some (vI (x + 1))], [], LAY A F, 0, 0)) hc56 20 rfl ⟨⟨by omega, by omega⟩, ⟨by omega, by omega⟩, ⟨by omega, by omega⟩, ⟨by omega, by omega⟩, ⟨by omega, by omega⟩, ⟨by omega, by omega⟩, ⟨by omega, by omega⟩, ⟨by omega, by omega⟩, trivial⟩ ?_
          exact ih (i + 1) _ _ (by push_cast; omega) (by subst es; subst ex; simp only [sm]; split <;> omega) (by omega) (by omega)
  refine R_s (P := True) (f' := (4, [some (vR 12), some (vI d), some (vI 0), some (vI 0)], [], LAY A F, 0, 0)) hc56 4 rfl trivial ?_
  exact lp ((F 4).toNat + 1) 0 _ _ rfl rfl (by omega) (by omega)
