theorem lcm_eq {x y : Int} : ((if y < x then (1 : Int) else if x = y then 0 else -1) = 0) = (x = y) := by
  refine propext ⟨fun h => ?_, fun h => ?_⟩
  · revert h
    (repeat' split) <;> omega
  · rw [if_neg (by omega), if_pos h]
/-- whether the model's walk has a share lie at c when it has done all below i -/
def stU (P : List Int) (n : Nat) (al : Nat → Int) (ro i c : Nat) : Int := if SH P n al ro c = 0 then 0 else if c < i then al c else if c = ro ∨ rd P c < i then 1 else 0
theorem stU_01 {P : List Int} {n : Nat} {al : Nat → Int} (ha : ∀ p, p < n → al p = 0 ∨ al p = 1) (ro i c : Nat) (hc : c < n) : stU P n al ro i c = 0 ∨ stU P n al ro i c = 1 := by
  have := ha c hc
  unfold stU
  (repeat' split) <;> omega
theorem SH_par {P : List Int} {n : Nat} {al : Nat → Int} {ro c : Nat} (hT : TR P n) (hc : c < n) (h : SH P n al ro c ≠ 0) (hr : c ≠ ro) : ro < c ∧ 0 ≤ rd P c ∧ al (rd P c).toNat = 0 ∧ 0 < CN P n al c ∧ SH P n al ro (rd P c).toNat ≠ 0 ∧ SH P n al ro c = SH P n al ro (rd P c).toNat * HR P n al (rd P c).toNat ∧ ro ≤ (rd P c).toNat := by
  have h1 : ro < c := by
    refine Classical.byContradiction (fun q => h (SH_lt (by omega)))
  have h2 := SH_eq (al := al) hT hc h1
  by_cases e : 0 ≤ rd P c ∧ al (rd P c).toNat = 0 ∧ 0 < CN P n al c
  · rw [if_pos e] at h2
    have h3 : SH P n al ro (rd P c).toNat ≠ 0 := fun q => h (by rw [h2, q, Int.zero_mul])
    exact ⟨h1, e.1, e.2.1, e.2.2, h3, h2, Classical.byContradiction (fun q => h3 (SH_lt (by omega)))⟩
  · rw [if_neg e] at h2
    exact absurd h2 h
theorem stU_0 {P : List Int} {n : Nat} {al : Nat → Int} {ro c : Nat} (hT : TR P n) (hc : c < n) : stU P n al ro ro c = if c = ro then 1 else 0 := by
  unfold stU
  by_cases e : c = ro
  · subst e
    rw [SH_self, if_neg (by decide), if_neg (by omega), if_pos (.inl rfl), if_pos rfl]
  · rw [if_neg e]
    by_cases e2 : SH P n al ro c = 0
    · rw [if_pos e2]
    · have h := SH_par hT hc e2 e
      rw [if_neg e2, if_neg (by omega), if_neg (by omega)]
theorem stU_i {P : List Int} {n : Nat} {al : Nat → Int} {ro i : Nat} (hT : TR P n) (hi : i < n) : stU P n al ro i i = if SH P n al ro i = 0 then 0 else 1 := by
  have := hT i hi
  unfold stU
  by_cases e2 : SH P n al ro i = 0
  · rw [if_pos e2, if_pos e2]
  · rw [if_neg e2, if_neg e2, if_neg (by omega), if_pos (.inr (by omega))]
theorem stU_same {P : List Int} {n : Nat} {al : Nat → Int} {ro i : Nat} (hT : TR P n) (ha : ∀ p, p < n → al p = 0 ∨ al p = 1) (hi : i < n) (h : SH P n al ro i = 0 ∨ al i = 1) (c : Nat) (hc : c < n) : stU P n al ro (i + 1) c = stU P n al ro i c := by
  have hTi := hT i hi
  have hTc := hT c hc
  by_cases e2 : SH P n al ro c = 0
  · unfold stU
    rw [if_pos e2, if_pos e2]
  · unfold stU
    rw [if_neg e2, if_neg e2]
    by_cases e3 : c < i
    · rw [if_pos e3, if_pos (by omega)]
    · by_cases e4 : c = i
      · subst e4
        rw [if_pos (by omega), if_neg e3, if_pos (.inr (by omega))]
        omega
      · rw [if_neg (by omega), if_neg e3]
        by_cases e5 : c = ro
        · rw [if_pos (.inl e5), if_pos (.inl e5)]
        · have q := SH_par hT hc e2 e5
          by_cases e6 : rd P c = i
          · exfalso
            rw [show (rd P c).toNat = i by omega] at q
            omega
          · by_cases e7 : rd P c < i
            · rw [if_pos (.inr (by omega)), if_pos (.inr e7)]
            · rw [if_neg (by omega), if_neg (by omega)]
theorem HR_pos {P : List Int} {n : Nat} {al : Nat → Int} {c i : Nat} (hc : c < n) (h : rd P c = i) (h2 : 0 < CN P n al c) : 0 < HR P n al i := by
  have := sm_ge (g := fun c : Nat => if 0 ≤ c ∧ rd P c = i ∧ 0 < CN P n al c then (1 : Int) else 0) n hc (fun j hj => by (try dsimp only); split <;> omega)
  (try dsimp only at this)
  rw [if_pos ⟨by omega, h, h2⟩] at this
  unfold HR HT
  omega
theorem SH_ch {P : List Int} {n : Nat} {al : Nat → Int} {ro i c : Nat} (hT : TR P n) (h1 : SH P n al ro i ≠ 0) (h2 : al i = 0) (hc : c < n) (hp : rd P c = i) (h3 : 0 < CN P n al c) : SH P n al ro c = SH P n al ro i * HR P n al i ∧ SH P n al ro c ≠ 0 := by
  have hTc := hT c hc
  have h4 : ro ≤ i := Classical.byContradiction (fun q => h1 (SH_lt (by omega)))
  have h5 := SH_eq (al := al) (root := ro) hT hc (by omega)
  have e : (rd P c).toNat = i := by omega
  rw [e, if_pos ⟨by omega, h2, h3⟩] at h5
  refine ⟨h5, fun q => ?_⟩
  rw [q] at h5
  have h6 := HR_pos hc hp h3
  obtain z | z := Int.mul_eq_zero.mp h5.symm
  · exact h1 z
  · omega
theorem stU_push {P : List Int} {n : Nat} {al : Nat → Int} {ro i : Nat} (hT : TR P n) (ha : ∀ p, p < n → al p = 0 ∨ al p = 1) (hi : i < n) (h1 : SH P n al ro i ≠ 0) (h2 : al i = 0) (c : Nat) (hc : c < n) : stU P n al ro (i + 1) c = if c = i then 0 else if rd P c = i ∧ 0 < CN P n al c then 1 else stU P n al ro i c := by
  have hTi := hT i hi
  have hTc := hT c hc
  by_cases e4 : c = i
  · subst e4
    unfold stU
    rw [if_pos (c := c = c) rfl, if_neg h1, if_pos (by omega), h2]
  · rw [if_neg e4]
    by_cases e6 : rd P c = i ∧ 0 < CN P n al c
    · rw [if_pos e6]
      have q := SH_ch hT h1 h2 hc e6.1 e6.2
      unfold stU
      rw [if_neg q.2, if_neg (by omega), if_pos (.inr (by omega))]
    · rw [if_neg e6]
      unfold stU
      by_cases e2 : SH P n al ro c = 0
      · rw [if_pos e2, if_pos e2]
      · rw [if_neg e2, if_neg e2]
        by_cases e3 : c < i
        · rw [if_pos e3, if_pos (by omega)]
        · rw [if_neg (by omega), if_neg e3]
          by_cases e5 : c = ro
          · rw [if_pos (.inl e5), if_pos (.inl e5)]
          · have q := SH_par hT hc e2 e5
            by_cases e7 : rd P c < i
            · rw [if_pos (.inr (by omega)), if_pos (.inr e7)]
            · rw [if_neg (by omega), if_neg (by omega)]
