/-! what all ends of a deed get, what persons get of it, what the accounts are more by -/
theorem le_dv {X s z : Int} (hs : 0 < s) (h : z * s ≤ X) : z ≤ X / s := by
  refine Classical.byContradiction (fun q => ?_)
  have h1 : X / s + 1 ≤ z := by omega
  have h2 := Int.mul_le_mul_of_nonneg_right h1 (show 0 ≤ s by omega)
  rw [Int.add_mul, Int.one_mul] at h2
  have h3 := Int.emod_def X s
  have h4 := Int.emod_lt_of_pos X hs
  rw [Int.mul_comm s (X / s)] at h3
  omega
theorem dv_le {X s : Int} (hs : 0 < s) : X / s * s ≤ X := Int.ediv_mul_le X (by omega)
theorem dv_nn {X s : Int} (hX : 0 ≤ X) (hs : 0 ≤ s) : 0 ≤ X / s := Int.ediv_nonneg hX hs
theorem dv_dv {X s h : Int} (hX : 0 ≤ X) (hs : 0 < s) (hh : 0 ≤ h) : X / (s * h) * h ≤ X / s := by
  by_cases e : h = 0
  · rw [e, Int.mul_zero]
    exact dv_nn hX (by omega)
  · have h1 : 0 < s * h := by
      have := Int.mul_le_mul_of_nonneg_right (show 1 ≤ s by omega) hh
      omega
    refine le_dv hs ?_
    have h2 := dv_le (X := X) h1
    rw [show X / (s * h) * h * s = X / (s * h) * (s * h) by rw [Int.mul_assoc, Int.mul_comm h s]]
    exact h2
theorem sm_q {p : Nat → Prop} (hd : ∀ c, Decidable (p c)) (q : Int) (n : Nat) : sm (fun c => if p c then q else 0) n = q * sm (fun c => if p c then 1 else 0) n := by
  induction n with
  | zero => exact (Int.mul_zero q).symm
  | succ n ih =>
    simp only [sm]
    rw [ih]
    split
    · rw [Int.mul_comm q (_ + 1), Int.add_mul, Int.one_mul, Int.mul_comm]
    · rw [Int.add_zero, Int.add_zero]
/-- the shares that lie on the way down come to no more than the whole -/
def stS (P : List Int) (n : Nat) (al : Nat → Int) (ro : Nat) (X : Int) (i : Nat) : Int := sm (fun c => if stU P n al ro i c = 1 then X / SH P n al ro c else 0) n
theorem stS_step {P : List Int} {n : Nat} {al : Nat → Int} {ro i : Nat} {X : Int} (hT : TR P n) (ha : ∀ p, p < n → al p = 0 ∨ al p = 1) (hi : i < n) (hX : 0 ≤ X) : stS P n al ro X (i + 1) ≤ stS P n al ro X i := by
  by_cases e : SH P n al ro i = 0 ∨ al i = 1
  · unfold stS
    exact Int.le_of_eq (sm_congr n (fun c hc => by
      (try dsimp only)
      rw [stU_same hT ha hi e c hc]))
  · have h1 : SH P n al ro i ≠ 0 := fun q => e (.inl q)
    have h2 : al i = 0 := by
      have := ha i hi
      have : ¬ al i = 1 := fun q => e (.inr q)
      omega
    have hS := SH_nn (P := P) (n := n) (al := al) (root := ro) i
    have hH : 0 ≤ HR P n al i := HT_bd.1
    have hro : ro ≤ i := Classical.byContradiction (fun q => h1 (SH_lt (by omega)))
    have hq := dv_dv (s := SH P n al ro i) (h := HR P n al i) hX (by omega) hH
    have hp : ∀ c, c < n → (if stU P n al ro (i + 1) c = 1 then X / SH P n al ro c else 0) = (if stU P n al ro i c = 1 then X / SH P n al ro c else 0) + ((if c = i then -(X / SH P n al ro i) else 0) + (if 0 ≤ c ∧ rd P c = i ∧ 0 < CN P n al c then X / (SH P n al ro i * HR P n al i) else 0)) := fun c hc => by
      have hTc := hT c hc
      rw [stU_push hT ha hi h1 h2 c hc]
      by_cases e4 : c = i
      · subst e4
        rw [if_pos (c := c = c) rfl, if_pos (c := c = c) rfl, stU_i hT hc, if_neg h1, if_neg (by decide), if_pos rfl, if_neg (fun q => by have := q.2.1; omega)]
        omega
      · rw [if_neg (c := c = i) e4, if_neg (c := c = i) e4]
        by_cases e6 : rd P c = i ∧ 0 < CN P n al c
        · have z : stU P n al ro i c = 0 := by
            unfold stU
            split
            · rfl
            · rw [if_neg (by omega), if_neg (by omega)]
          rw [if_pos e6, if_pos rfl, z, if_neg (by decide), if_pos (show 0 ≤ c ∧ rd P c = i ∧ 0 < CN P n al c from ⟨Nat.zero_le _, e6⟩), (SH_ch hT h1 h2 hc e6.1 e6.2).1]
          omega
        · rw [if_neg e6, if_neg (show ¬ (0 ≤ c ∧ rd P c = i ∧ 0 < CN P n al c) from fun q => e6 q.2)]
          omega
    unfold stS
    rw [sm_congr n hp, sm_add, sm_add, sm_one (g := fun c => if c = i then -(X / SH P n al ro i) else 0) n hi (fun c _ h => if_neg h), if_pos rfl, sm_q]
    have e9 : sm (fun c : Nat => if 0 ≤ c ∧ rd P c = i ∧ 0 < CN P n al c then (1 : Int) else 0) n = HR P n al i := rfl
    rw [e9]
    omega
theorem stS_le {P : List Int} {n : Nat} {al : Nat → Int} {ro : Nat} {X : Int} (hT : TR P n) (ha : ∀ p, p < n → al p = 0 ∨ al p = 1) (hr : ro < n) (hX : 0 ≤ X) : ∀ j : Nat, ro + j ≤ n → stS P n al ro X (ro + j) ≤ X
  | 0, _ => by
    unfold stS
    rw [sm_one n hr (fun c hc h => by rw [Nat.add_zero, stU_0 hT hc, if_neg h]; exact if_neg (by decide)), Nat.add_zero, stU_0 hT hr, if_pos rfl, if_pos rfl, SH_self]
    have := dv_le (X := X) (s := 1) (by decide)
    rw [Int.mul_one] at this
    exact this
  | j + 1, h => Int.le_trans (stS_step (i := ro + j) hT ha (by omega) hX) (stS_le hT ha hr hX j (by omega))
theorem share_le {P : List Int} {n : Nat} {al : Nat → Int} {how : Int} {ro : Nat} {X : Int} (hT : TR P n) (ha : ∀ p, p < n → al p = 0 ∨ al p = 1) (hr : ro < n) (hX : 0 ≤ X) : sm (fun p => if SF P n al how ro p = 0 then 0 else X / SF P n al how ro p) n ≤ X := by
  have hb := CN_bd (P := P) ha ro
  by_cases e : CN P n al ro = 0
  · rw [sm_zero n (fun p _ => by unfold SF; rw [if_pos e, if_pos rfl])]
    exact hX
  · by_cases e1 : how = 1
    · have hp : ∀ p, p < n → (if SF P n al how ro p = 0 then 0 else X / SF P n al how ro p) = if rq P 0 ro p = 1 ∧ al p = 1 then X / CN P n al ro else 0 := fun p _ => by
        unfold SF
        rw [if_neg e, if_pos e1]
        by_cases q : rq P 0 ro p = 1 ∧ al p = 1
        · rw [if_pos q, if_pos q, if_neg e]
        · rw [if_neg q, if_neg q, if_pos rfl]
      have hc : sm (fun p => if rq P 0 ro p = 1 ∧ al p = 1 then (1 : Int) else 0) n = CN P n al ro := by
        unfold CN VV
        refine sm_congr n (fun p hp => ?_)
        (try dsimp only)
        have z := mul_01 (rq_01 (P := P) (q := 0) (p := ro) p) (ha p hp)
        by_cases q : rq P 0 ro p = 1 ∧ al p = 1
        · rw [if_pos q, q.1, q.2]
          rfl
        · rw [if_neg q]
          have := z.2
          omega
      rw [sm_congr n hp, sm_q, hc]
      exact dv_le (by omega)
    · have hp : ∀ p, p < n → (if SF P n al how ro p = 0 then 0 else X / SF P n al how ro p) = if stU P n al ro n p = 1 then X / SH P n al ro p else 0 := fun p hp => by
        have := ha p hp
        unfold SF stU
        rw [if_neg e, if_neg e1, if_pos hp]
        by_cases q : SH P n al ro p = 0 <;> by_cases q2 : al p = 1 <;> simp [q, q2]
      rw [sm_congr n hp]
      have z := stS_le (X := X) hT ha hr hX (n - ro) (by omega)
      rw [show ro + (n - ro) = n by omega] at z
      exact z
/-- a line's end gets no more than its twelfths -/
theorem S_le_le {n : Nat} {P : List Int} {al : Nat → Int} {Q : Nat → List Int} {lo : Int} {i : Nat} (ha : ∀ p, p < n → al p = 0 ∨ al p = 1) (hT : TR P n) (hn : n ≤ 30) (hlo : 0 ≤ lo) (h : 0 ≤ rd (Q 1) i ∧ rd (Q 1) i ≤ 12) (hr : 0 ≤ rd (Q 2) i ∧ rd (Q 2) i < n) : S_le n P al Q lo i * 12 ≤ lo * rd (Q 1) i := by
  have hW : 0 ≤ lo * rd (Q 1) i := Int.mul_nonneg hlo h.1
  have hX : 0 ≤ lo * rd (Q 1) i / 12 := Int.ediv_nonneg hW (by decide)
  have z := share_le (how := rd (Q 4) i) (ro := (rd (Q 2) i).toNat) hT ha (by omega) hX
  have z2 : S_le n P al Q lo i ≤ sm (fun p => if SF P n al (rd (Q 4) i) (rd (Q 2) i).toNat p = 0 then 0 else lo * rd (Q 1) i / 12 / SF P n al (rd (Q 4) i) (rd (Q 2) i).toNat p) n := by
    unfold S_le
    refine sm_le n (fun p hp => ?_)
    (try dsimp only)
    have hb := SF_bd (how := rd (Q 4) i) (root := (rd (Q 2) i).toNat) ha hT hn hp
    unfold S_am
    by_cases e : SF P n al (rd (Q 4) i) (rd (Q 2) i).toNat p = 0
    · rw [if_pos e, if_pos e]
      exact Int.le_refl _
    · rw [if_neg e, if_neg e]
      have hs : 0 < SF P n al (rd (Q 4) i) (rd (Q 2) i).toNat p := by omega
      refine le_dv hs (le_dv (by decide) ?_)
      have h2 := dv_le (X := lo * rd (Q 1) i) (s := 12 * SF P n al (rd (Q 4) i) (rd (Q 2) i).toNat p) (by omega)
      rw [Int.mul_assoc, Int.mul_comm (SF P n al (rd (Q 4) i) (rd (Q 2) i).toNat p) 12]
      exact h2
  have z3 := dv_le (X := lo * rd (Q 1) i) (s := 12) (by decide)
  omega
/-- the twelfths of the lines before an end -/
def s12 (Q : Nat → List Int) (i : Nat) : Int := sm (fun j => if rd (Q 0) j = 1 then rd (Q 1) j else 0) i
theorem S_rs_nn {n : Nat} {P : List Int} {al : Nat → Int} {Q : Nat → List Int} {so : Nat → Int} {lo : Int} {e : Nat} (ha : ∀ p, p < n → al p = 0 ∨ al p = 1) (hT : TR P n) (hn : n ≤ 30) (hlo : 0 ≤ lo) (hQ : QOK n Q e) : ∀ i : Nat, i ≤ e → 12 * lo - lo * s12 Q i ≤ 12 * S_rs n P al Q so lo i
  | 0, _ => by simp only [S_rs, s12, sm, Int.mul_zero]; omega
  | i + 1, hi => by
    have h1 := S_rs_nn (so := so) ha hT hn hlo hQ i (by omega)
    have hQi := hQ.2.2.2 i (by omega)
    have hs : s12 Q (i + 1) = s12 Q i + (if rd (Q 0) i = 1 then rd (Q 1) i else 0) := rfl
    rw [hs, Int.mul_comm lo (_ + _), Int.add_mul, Int.mul_comm (s12 Q i) lo]
    simp only [S_rs]
    by_cases q : rd (Q 0) i = 1
    · have z := S_le_le (lo := lo) (i := i) ha hT hn hlo (Q_ln hQ i (by omega) q) (hQi.2.2.2.2.1 (.inl q))
      have z2 := S_le_bd (Q := Q) (lo := lo) (i := i) ha hT hn hlo (Q_ln hQ i (by omega) q)
      have hW : 0 ≤ lo * rd (Q 1) i := Int.mul_nonneg hlo (Q_ln hQ i (by omega) q).1
      rw [if_pos q, Int.mul_comm (rd (Q 1) i) lo]
      split <;> omega
    · rw [if_neg q, if_neg (fun w => q w.2), Int.zero_mul]
      omega
section
variable {n : Nat} {yr Y : Int} {P B : List Int} {al : Nat → Int} {Q : Nat → List Int} {e : Nat}
theorem T_pm_bd (hY : 0 ≤ Y ∧ Y ≤ 99990) (hQ : QOK n Q e) : 0 ≤ T_pm n yr Y P B al Q e ∧ T_pm n yr Y P B al Q e ≤ Y := (T_pl (yr := yr) (P := P) (B := B) (al := al) hY hQ).1
theorem T_fx_bd (hY : 0 ≤ Y ∧ Y ≤ 99990) (hQ : QOK n Q e) (i : Nat) (hi : i ≤ e) : 0 ≤ T_fx n yr Y P B al Q e i ∧ T_fx n yr Y P B al Q e i ≤ Y := by
  have h1 := T_pm_bd (yr := yr) (P := P) (B := B) (al := al) hY hQ
  have h2 := S_fx_bd (Q := Q) (so := T_so n yr Y P al Q e) (r := Y - T_pm n yr Y P B al Q e) (by omega) i (fun j hj h => by
    have z := (hQ.2.2.2 j (by omega)).2.2.2.1
    omega)
  unfold T_fx
  omega
/-- what is left is no more than the yield -/
theorem T_lo_le (hY : 0 ≤ Y ∧ Y ≤ 99990) (hQ : QOK n Q e) : 0 ≤ T_lo n yr Y P B al Q e ∧ T_lo n yr Y P B al Q e ≤ Y := T_fx_bd hY hQ e (Nat.le_refl e)
theorem T_rs_nn (hY : 0 ≤ Y ∧ Y ≤ 99990) (hQ : QOK n Q e) (ha : ∀ p, p < n → al p = 0 ∨ al p = 1) (hT : TR P n) (hn : n ≤ 30) (h12 : s12 Q e ≤ 12) : 0 ≤ T_rs n yr Y P B al Q e e := by
  have h1 := T_lo_le (yr := yr) (P := P) (B := B) (al := al) hY hQ
  have h2 := S_rs_nn (so := T_so n yr Y P al Q e) (lo := T_lo n yr Y P B al Q e) ha hT hn h1.1 hQ e (Nat.le_refl e)
  have h3 := Int.mul_le_mul_of_nonneg_left h12 h1.1
  unfold T_rs
  omega
/-- no end gets less than nothing -/
theorem T_te_nn (hY : 0 ≤ Y ∧ Y ≤ 99990) (hQ : QOK n Q e) (ha : ∀ p, p < n → al p = 0 ∨ al p = 1) (hT : TR P n) (hn : n ≤ 30) (h12 : s12 Q e ≤ 12) (i : Nat) (hi : i < e) : 0 ≤ T_te n yr Y P B al Q e i := by
  have h1 := T_pm_bd (yr := yr) (P := P) (B := B) (al := al) hY hQ
  have h2 := T_fx_bd (yr := yr) (P := P) (B := B) (al := al) hY hQ i (by omega)
  have h3 := T_rs_nn (yr := yr) (B := B) hY hQ ha hT hn h12
  have h4 := T_lo_le (yr := yr) (P := P) (B := B) (al := al) hY hQ
  have hQi := hQ.2.2.2 i hi
  unfold T_te
  split
  · exact h3
  · unfold T_ge
    split
    · exact h1.1
    · split
      · split
        · rename_i q _
          exact (S_le_bd ha hT hn h4.1 (Q_ln hQ i hi q)).1
        · omega
      · exact (S_fe_bd h2.1 (fun q => by have := hQi.2.2.2.1; omega)).1
theorem T_pm_0 (h : rd (Q 0) 0 ≠ 2) : T_pm n yr Y P B al Q e = 0 := by
  unfold T_pm S_pm T_mg S_mg
  rw [if_neg (c := rd (Q 0) 0 = 2 ∧ _) (fun q => h q.1), if_pos rfl]
/-- what the ends before the last get -/
theorem T_ge_sm (hQ : QOK n Q e) : ∀ i : Nat, i < e → sm (fun j => T_ge n yr Y P B al Q e j) i = (if 0 < i then T_pm n yr Y P B al Q e else 0) + (Y - T_pm n yr Y P B al Q e - T_fx n yr Y P B al Q e i) + (T_lo n yr Y P B al Q e - T_rs n yr Y P B al Q e i)
  | 0, _ => by
    unfold T_fx T_rs
    simp only [sm, S_fx, S_rs]
    rw [if_neg (by omega)]
    omega
  | i + 1, hi => by
    have ih := T_ge_sm hQ i (by omega)
    have hQi := hQ.2.2.2 i (by omega)
    have hK3 : rd (Q 0) i ≠ 3 := fun q => by have := hQi.2.1.mp q; omega
    have hfx : T_fx n yr Y P B al Q e (i + 1) = T_fx n yr Y P B al Q e i - S_fe Q (T_so n yr Y P al Q e) (T_fx n yr Y P B al Q e i) i := rfl
    have hrs : T_rs n yr Y P B al Q e (i + 1) = T_rs n yr Y P B al Q e i - (if T_so n yr Y P al Q e i = 1 ∧ rd (Q 0) i = 1 then S_le n P al Q (T_lo n yr Y P B al Q e) i else 0) := rfl
    simp only [sm]
    rw [ih, hfx, hrs, if_pos (by omega : 0 < i + 1)]
    unfold T_ge
    by_cases q2 : rd (Q 0) i = 2
    · have i0 : i = 0 := (hQi.2.2.1 q2).1
      rw [if_pos q2, if_neg (by omega : ¬ 0 < i), if_neg (fun w => by have := w.2; omega)]
      unfold S_fe
      rw [if_neg (fun w => by have := w.2; omega)]
      omega
    · have hp0 : (if 0 < i then T_pm n yr Y P B al Q e else 0) = T_pm n yr Y P B al Q e := by
        by_cases i0 : 0 < i
        · rw [if_pos i0]
        · rw [if_neg i0, T_pm_0 (by rw [show (0 : Int) = ((i : Nat) : Int) by omega]; exact q2)]
      rw [if_neg q2, hp0]
      by_cases q1 : rd (Q 0) i = 1
      · rw [if_pos q1]
        unfold S_fe
        rw [if_neg (show ¬ (T_so n yr Y P al Q e i = 1 ∧ rd (Q 0) i = 0) from fun w => by have := w.2; omega)]
        by_cases w : T_so n yr Y P al Q e i = 1
        · rw [if_pos w, if_pos ⟨w, q1⟩]
          omega
        · rw [if_neg w, if_neg (fun z => w z.1)]
          omega
      · rw [if_neg q1, if_neg (fun z => q1 z.2)]
        omega
/-- all ends together get the yield -/
theorem T_te_sm (hQ : QOK n Q e) : sm (fun j => T_te n yr Y P B al Q e j) e = Y := by
  obtain ⟨i, rfl⟩ : ∃ i, e = i + 1 := ⟨e - 1, by have := hQ.1; omega⟩
  have hQi := hQ.2.2.2 i (by omega)
  have hK : rd (Q 0) i = 3 := hQi.2.1.mpr rfl
  have z := T_ge_sm (yr := yr) (Y := Y) (P := P) (B := B) (al := al) hQ i (by omega)
  simp only [sm]
  have h1 : sm (fun j => T_te n yr Y P B al Q (i + 1) j) i = sm (fun j => T_ge n yr Y P B al Q (i + 1) j) i := sm_congr i (fun j hj => by
    have hQj := hQ.2.2.2 j (by omega)
    (try dsimp only)
    unfold T_te
    rw [if_neg (fun q => by have := hQj.2.1.mp q; omega)])
  have h2 : T_te n yr Y P B al Q (i + 1) i = T_rs n yr Y P B al Q (i + 1) (i + 1) := by
    unfold T_te
    rw [if_pos hK]
  have h3 : T_rs n yr Y P B al Q (i + 1) (i + 1) = T_rs n yr Y P B al Q (i + 1) i - (if T_so n yr Y P al Q (i + 1) i = 1 ∧ rd (Q 0) i = 1 then S_le n P al Q (T_lo n yr Y P B al Q (i + 1)) i else 0) := rfl
  have h4 : T_lo n yr Y P B al Q (i + 1) = T_fx n yr Y P B al Q (i + 1) i - S_fe Q (T_so n yr Y P al Q (i + 1)) (T_fx n yr Y P B al Q (i + 1) i) i := rfl
  rw [if_neg (fun w => by have := w.2; omega)] at h3
  have h5 : S_fe Q (T_so n yr Y P al Q (i + 1)) (T_fx n yr Y P B al Q (i + 1) i) i = 0 := by
    unfold S_fe
    rw [if_neg (fun w => by have := w.2; omega)]
  have hp0 : (if 0 < i then T_pm n yr Y P B al Q (i + 1) else 0) = T_pm n yr Y P B al Q (i + 1) := by
    by_cases i0 : 0 < i
    · rw [if_pos i0]
    · rw [if_neg i0, T_pm_0 (by rw [show (0 : Int) = ((i : Nat) : Int) by omega]; omega)]
  rw [h1, h2, z, hp0]
  omega
theorem sm_swap (g : Nat → Nat → Int) (m : Nat) : ∀ n : Nat, sm (fun p => sm (fun i => g i p) m) n = sm (fun i => sm (fun p => g i p) n) m
  | 0 => (sm_zero m (fun _ _ => rfl)).symm
  | n + 1 => by
    have e : sm (fun p => sm (fun i => g i p) m) (n + 1) = sm (fun p => sm (fun i => g i p) m) n + sm (fun i => g i n) m := rfl
    rw [e, sm_swap g m n, ← sm_add]
    rfl
theorem S_ls_sm {so : Nat → Int} {lo : Int} (p : Nat) : ∀ i : Nat, S_ls n P al Q so lo i p = sm (fun j => if so j = 1 ∧ rd (Q 0) j = 1 then S_am n P al Q lo j p else 0) i
  | 0 => rfl
  | i + 1 => by
    simp only [S_ls, sm]
    rw [S_ls_sm p i]
/-- what persons get is what line and manager ends get -/
theorem T_tp_sm (hQ : QOK n Q e) : sm (fun p => T_tp n yr Y P B al Q e p) n = sm (fun i => if rd (Q 0) i = 1 ∨ rd (Q 0) i = 2 then T_te n yr Y P B al Q e i else 0) e := by
  have hmg : -1 ≤ T_mg n yr Y P B al Q e ∧ T_mg n yr Y P B al Q e < n := S_mg_bd
  have e1 : sm (fun p : Nat => if T_mg n yr Y P B al Q e = (p : Int) then T_pm n yr Y P B al Q e else 0) n = T_pm n yr Y P B al Q e := by
    by_cases h : T_mg n yr Y P B al Q e = -1
    · rw [sm_zero n (fun p _ => if_neg (by omega))]
      unfold T_pm S_pm
      rw [if_pos h]
    · rw [sm_one (p := (T_mg n yr Y P B al Q e).toNat) n (by omega) (fun p _ hp => if_neg (by omega)), if_pos (by omega)]
  have e2 : sm (fun p => S_ls n P al Q (T_so n yr Y P al Q e) (T_lo n yr Y P B al Q e) e p) n = sm (fun j => if T_so n yr Y P al Q e j = 1 ∧ rd (Q 0) j = 1 then S_le n P al Q (T_lo n yr Y P B al Q e) j else 0) e := by
    rw [sm_congr n (fun p _ => S_ls_sm p e), sm_swap (fun j p => if T_so n yr Y P al Q e j = 1 ∧ rd (Q 0) j = 1 then S_am n P al Q (T_lo n yr Y P B al Q e) j p else 0)]
    refine sm_congr e (fun j _ => ?_)
    (try dsimp only)
    by_cases q : T_so n yr Y P al Q e j = 1 ∧ rd (Q 0) j = 1
    · rw [if_pos q]
      exact sm_congr n (fun p _ => if_pos q)
    · rw [if_neg q]
      exact sm_zero n (fun p _ => if_neg q)
  have e3 : ∀ i, i < e → (if rd (Q 0) i = 1 ∨ rd (Q 0) i = 2 then T_te n yr Y P B al Q e i else 0) = (if i = 0 then T_pm n yr Y P B al Q e else 0) + (if T_so n yr Y P al Q e i = 1 ∧ rd (Q 0) i = 1 then S_le n P al Q (T_lo n yr Y P B al Q e) i else 0) := fun i hi => by
    have hQi := hQ.2.2.2 i hi
    have hp0 : i = 0 → rd (Q 0) i ≠ 2 → T_pm n yr Y P B al Q e = 0 := fun h0 h => T_pm_0 (by rw [show (0 : Int) = ((i : Nat) : Int) by omega]; exact h)
    unfold T_te T_ge
    by_cases q2 : rd (Q 0) i = 2
    · have i0 : i = 0 := (hQi.2.2.1 q2).1
      rw [if_pos (.inr q2), if_neg (by omega : ¬ rd (Q 0) i = 3), if_pos q2, if_pos i0, if_neg (fun w => by have := w.2; omega)]
      omega
    · have z : (if i = 0 then T_pm n yr Y P B al Q e else 0) = 0 := by
        by_cases h0 : i = 0
        · rw [if_pos h0, hp0 h0 q2]
        · rw [if_neg h0]
      rw [z]
      by_cases q1 : rd (Q 0) i = 1
      · rw [if_pos (.inl q1), if_neg (by omega : ¬ rd (Q 0) i = 3), if_neg q2, if_pos q1]
        by_cases w : T_so n yr Y P al Q e i = 1
        · rw [if_pos w, if_pos ⟨w, q1⟩]
          omega
        · rw [if_neg w, if_neg (fun z => w z.1)]
          omega
      · rw [if_neg (fun w => by omega), if_neg (fun w => q1 w.2)]
        omega
  have e4 : sm (fun p => T_tp n yr Y P B al Q e p) n = sm (fun p : Nat => if T_mg n yr Y P B al Q e = (p : Int) then T_pm n yr Y P B al Q e else 0) n + sm (fun p => S_ls n P al Q (T_so n yr Y P al Q e) (T_lo n yr Y P B al Q e) e p) n := by
    rw [← sm_add]
    rfl
  have he : 0 < e := by have := hQ.1; omega
  rw [e4, e1, e2, sm_congr e e3, sm_add, sm_one (g := fun i => if i = 0 then T_pm n yr Y P B al Q e else 0) e he (fun i _ h => if_neg h), if_pos rfl]
end
