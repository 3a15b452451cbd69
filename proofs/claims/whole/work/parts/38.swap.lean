theorem rd_cpI {l1 l2 : List Int} {sp dp n : Int} {k : Nat} (hk : k < l2.length) (h0 : 0 ≤ sp) (h1 : 0 ≤ dp) (h2 : 0 ≤ n) : rd (cpI l1 l2 sp dp n) k = if dp ≤ k ∧ k < dp + n then rd l1 (sp + (k - dp)) else rd l2 k := by
  unfold rd cpI
  rw [Int.toNat_natCast, List.getD_eq_getElem?_getD, List.getElem?_map, List.getElem?_range hk]
  simp only [Option.map_some, Option.getD_some]
  by_cases q : dp ≤ k ∧ k < dp + n
  · have q2 : dp.toNat ≤ k ∧ k < dp.toNat + n.toNat := ⟨by omega, by omega⟩
    rw [if_pos q, if_pos q2, show (sp + ((k : Int) - dp)).toNat = sp.toNat + (k - dp.toNat) by omega]
  · have q2 : ¬ (dp.toNat ≤ k ∧ k < dp.toNat + n.toNat) := fun z => q ⟨by omega, by omega⟩
    rw [if_neg q, if_neg q2]
theorem PERS_unk {n : Int} {P B D U T mT D' T' : List Int} (h : PERS n P B D U T mT) (lD : D.length = 30) (lU : U.length = 30) (lT : T.length = 30) (lM : mT.length = 30) {p v : Int} (hp : 0 ≤ p ∧ p < n) (hv : v = 0 ∨ v = 1) (hD : D' = D ∨ D' = wr D p (-1)) (hT : T' = T ∨ T' = wr T p 0) (hvT : v = 1 → T' = wr T p 0) (hc : cb (wr U p v) n.toNat ≤ 5) : PERS n P B D' (wr U p v) T' (wr mT p 0) := by
  obtain ⟨p1, p2, p3, p4, p5, p6⟩ := h
  refine ⟨p1, p2, fun i hi hi2 => ?_, fun i hi hi2 => ?_, fun i hi hi2 => ?_, hc⟩
  · have z := p3 i hi hi2
    have e : rd D' i = rd D i ∨ rd D' i = -1 := by
      rcases hD with e | e
      · rw [e]
        exact .inl rfl
      · rw [e, rd_wr hp.1 (by omega) hi]
        split
        · exact .inr rfl
        · exact .inl rfl
    omega
  · have z := p4 i hi hi2
    have e : rd T' i = rd T i ∨ (i = p ∧ rd T' i = 0) := by
      rcases hT with e | e
      · rw [e]
        exact .inl rfl
      · rw [e, rd_wr hp.1 (by omega) hi]
        split
        · rename_i q
          exact .inr ⟨q, rfl⟩
        · exact .inl rfl
    have e2 : v = 1 → i = p → rd T' i = 0 := fun q1 q2 => by rw [hvT q1, rd_wr hp.1 (by omega) hi, if_pos q2]
    rw [rd_wr hp.1 (by omega) hi, rd_wr hp.1 (by omega) hi]
    by_cases q : i = p
    · rw [if_pos q, if_pos q]
      exact ⟨hv, by omega, .inl rfl, fun q2 => (e2 q2 q).symm⟩
    · rw [if_neg q, if_neg q]
      exact ⟨z.1, by omega, z.2.2.1, fun q2 => by have := z.2.2.2 q2; omega⟩
  · rw [rd_wr hp.1 (by omega) (by omega), if_neg (by omega)]
    exact p5 i hi hi2
/-- leases that hold and meet the years from a on and ahead of b -/
def LFc (T Fr Y H : List Int) (t a b : Int) : Nat → Int
  | 0 => 0
  | l + 1 => LFc T Fr Y H t a b l + (if rd H l = 1 ∧ rd T l = t ∧ rd Fr l < b ∧ a < rd Fr l + rd Y l then 1 else 0)
theorem LFc_nn {T Fr Y H : List Int} {t a b : Int} (n : Nat) : 0 ≤ LFc T Fr Y H t a b n := by
  induction n with
  | zero => exact Int.le_refl 0
  | succ n ih =>
    simp only [LFc]
    split <;> omega
theorem LFc_hit {T Fr Y H : List Int} {t a b : Int} {i n : Nat} (hi : i < n) (h : rd H i = 1 ∧ rd T i = t ∧ rd Fr i < b ∧ a < rd Fr i + rd Y i) : LFc T Fr Y H t a b n ≠ 0 := by
  induction n with
  | zero => omega
  | succ n ih =>
    simp only [LFc]
    have := LFc_nn (T := T) (Fr := Fr) (Y := Y) (H := H) (t := t) (a := a) (b := b) n
    by_cases e : i = n
    · subst e
      rw [if_pos h]
      omega
    · have := ih (by omega)
      split <;> omega
theorem LFc_far {T Fr Y H : List Int} {t a b b' : Int} {n : Nat} (h : ∀ i : Nat, i < n → rd Fr i < b ∧ rd Fr i < b') : LFc T Fr Y H t a b n = LFc T Fr Y H t a b' n := by
  induction n with
  | zero => rfl
  | succ n ih =>
    simp only [LFc]
    have z := h n (by omega)
    rw [ih (fun i hi => h i (by omega))]
    simp only [z.1, z.2]
theorem LEAS_add {n : Int} {T Fr Y H mL : List Int} (h : LEAS n T Fr Y H mL) (lT : T.length = 30) (lF : Fr.length = 30) (lY : Y.length = 30) (lH : H.length = 30) (lM : mL.length = 90) (hn : n < 30) {t f y v : Int} (hf : 0 ≤ f ∧ f ≤ 700) (hy : 1 ≤ y ∧ y ≤ 99) (hv : v = 0 ∨ v = 1) : LEAS (n + 1) (wr T n t) (wr Fr n f) (wr Y n y) (wr H n v) (wr (wr (wr mL (3 * n) t) (3 * n + 1) f) (3 * n + 2) y) := by
  obtain ⟨l1, l2, l3, l4⟩ := h
  refine ⟨by omega, by omega, fun i hi hi2 => ?_, fun i hi hi2 => ?_⟩
  · have m1 : (wr mL (3 * n) t).length = 90 := by rw [wr_len]; exact lM
    have m2 : (wr (wr mL (3 * n) t) (3 * n + 1) f).length = 90 := by rw [wr_len]; exact m1
    rw [rd_wr (by omega) (by omega) (by omega), rd_wr (by omega) (by omega) (by omega), rd_wr (by omega) (by omega) (by omega), rd_wr (l := wr (wr mL (3 * n) t) (3 * n + 1) f) (j := 3 * i + 1) (by omega) (by omega) (by omega), rd_wr (l := wr mL (3 * n) t) (j := 3 * i + 1) (by omega) (by omega) (by omega), rd_wr (l := mL) (j := 3 * i + 1) (by omega) (by omega) (by omega), rd_wr (l := wr (wr mL (3 * n) t) (3 * n + 1) f) (j := 3 * i + 2) (by omega) (by omega) (by omega), rd_wr (l := wr mL (3 * n) t) (j := 3 * i + 2) (by omega) (by omega) (by omega), rd_wr (l := mL) (j := 3 * i + 2) (by omega) (by omega) (by omega), rd_wr (l := T) (by omega) (by omega) (by omega), rd_wr (l := Fr) (by omega) (by omega) (by omega), rd_wr (l := Y) (by omega) (by omega) (by omega)]
    by_cases e : i = n
    · subst e
      rw [if_neg (by omega), if_neg (by omega), if_pos rfl, if_pos rfl, if_neg (by omega), if_pos rfl, if_pos rfl, if_pos rfl, if_pos rfl]
      exact ⟨rfl, rfl, rfl, hf.1, hf.2, hy.1, hy.2⟩
    · rw [if_neg (by omega), if_neg (by omega), if_neg (by omega), if_neg e, if_neg (by omega), if_neg (by omega), if_neg (by omega), if_neg e, if_neg (by omega), if_neg (by omega), if_neg (by omega), if_neg e]
      exact l3 i hi (by omega)
  · rw [rd_wr (by omega) (by omega) hi]
    split
    · exact hv
    · exact l4 i hi hi2
/-- two things' parts changed, the first i of each -/
def EXs (L : List Int) (t o i : Int) (j : Int) : Int := if t * 6 ≤ j ∧ j < t * 6 + i then rd L (o * 6 + (j - t * 6)) else if o * 6 ≤ j ∧ j < o * 6 + i then rd L (t * 6 + (j - o * 6)) else rd L j
theorem EXs_step {L l : List Int} {t o i : Int} (hl : l.length = 60) (ht : 0 ≤ t ∧ t < 10) (ho : 0 ≤ o ∧ o < 10) (hne : ¬ t = o) (hi : 0 ≤ i ∧ i < 6) (hz : ∀ j : Nat, j < 60 → rd l j = EXs L t o i j) (j : Nat) (hj : j < 60) : rd (wr (wr l (t * 6 + i) (rd l (o * 6 + i))) (o * 6 + i) (rd l (t * 6 + i))) j = EXs L t o (i + 1) j := by
  have a := hz (t * 6 + i).toNat (by omega)
  have b := hz (o * 6 + i).toNat (by omega)
  rw [show (((t * 6 + i).toNat : Nat) : Int) = t * 6 + i by omega] at a
  rw [show (((o * 6 + i).toNat : Nat) : Int) = o * 6 + i by omega] at b
  have a2 : rd l (t * 6 + i) = rd L (t * 6 + i) := by
    rw [a]
    unfold EXs
    rw [if_neg (by omega), if_neg (by omega)]
  have b2 : rd l (o * 6 + i) = rd L (o * 6 + i) := by
    rw [b]
    unfold EXs
    rw [if_neg (by omega), if_neg (by omega)]
  rw [rd_wr (by omega) (by rw [wr_len]; omega) (by omega), rd_wr (by omega) (by omega) (by omega), a2, b2]
  by_cases e1 : (j : Int) = o * 6 + i
  · rw [if_pos e1]
    unfold EXs
    rw [if_neg (by omega), if_pos (by omega), show t * 6 + ((j : Int) - o * 6) = t * 6 + i by omega]
  · rw [if_neg e1]
    by_cases e2 : (j : Int) = t * 6 + i
    · rw [if_pos e2]
      unfold EXs
      rw [if_pos (by omega), show o * 6 + ((j : Int) - t * 6) = o * 6 + i by omega]
    · rw [if_neg e2, hz j hj]
      unfold EXs
      by_cases q1 : t * 6 ≤ (j : Int) ∧ (j : Int) < t * 6 + i
      · have q2 : t * 6 ≤ (j : Int) ∧ (j : Int) < t * 6 + (i + 1) := by omega
        rw [if_pos q1, if_pos q2]
      · have q2 : ¬ (t * 6 ≤ (j : Int) ∧ (j : Int) < t * 6 + (i + 1)) := by omega
        rw [if_neg q1, if_neg q2]
        by_cases q3 : o * 6 ≤ (j : Int) ∧ (j : Int) < o * 6 + i
        · have q4 : o * 6 ≤ (j : Int) ∧ (j : Int) < o * 6 + (i + 1) := by omega
          rw [if_pos q3, if_pos q4]
        · have q4 : ¬ (o * 6 ≤ (j : Int) ∧ (j : Int) < o * 6 + (i + 1)) := by omega
          rw [if_neg q3, if_neg q4]
theorem EXs_0 {L : List Int} {t o j : Int} : EXs L t o 0 j = rd L j := by
  unfold EXs
  rw [if_neg (by omega), if_neg (by omega)]
theorem EXs_at {L l : List Int} {t o t' c : Int} (ht : 0 ≤ t ∧ t < 10) (ho : 0 ≤ o ∧ o < 10) (ht' : 0 ≤ t' ∧ t' < 10) (hc : 0 ≤ c ∧ c < 6) (hl : ∀ j : Nat, j < 60 → rd l j = EXs L t o 6 j) : rd l (t' * 6 + c) = rd L ((if t' = t then o else if t' = o then t else t') * 6 + c) := by
  have a := hl (t' * 6 + c).toNat (by omega)
  rw [show (((t' * 6 + c).toNat : Nat) : Int) = t' * 6 + c by omega] at a
  rw [a]
  unfold EXs
  by_cases e : t' = t
  · rw [if_pos (by omega), if_pos e, show o * 6 + (t' * 6 + c - t * 6) = o * 6 + c by omega]
  · rw [if_neg (by omega), if_neg e]
    by_cases e2 : t' = o
    · rw [if_pos (by omega), if_pos e2, show t * 6 + (t' * 6 + c - o * 6) = t * 6 + c by omega]
    · rw [if_neg (by omega), if_neg e2]
theorem THG_ex {n : Int} {W Y Ru Gv l : List Int} (h : THG n W Y Ru Gv) {t o : Int} (ht : 0 ≤ t ∧ t < 10) (ho : 0 ≤ o ∧ o < 10) (hl : ∀ j : Nat, j < 60 → rd l j = EXs Gv t o 6 j) : THG n W Y Ru l := by
  obtain ⟨t1, t2, t3, t4, t5, t6⟩ := h
  refine ⟨t1, t2, t3, t4, fun i hi hi2 => ?_, fun t' h0 h1 => ?_⟩
  · have a := hl i.toNat (by omega)
    rw [show ((i.toNat : Nat) : Int) = i by omega] at a
    rw [a]
    unfold EXs
    split
    · exact t5 _ (by omega) (by omega)
    · split
      · exact t5 _ (by omega) (by omega)
      · exact t5 i hi hi2
  · have e0 := EXs_at (t' := t') (c := 0) ht ho ⟨h0, h1⟩ (by decide) hl
    rw [Int.add_zero, Int.add_zero] at e0
    have hb : 0 ≤ (if t' = t then o else if t' = o then t else t') ∧ (if t' = t then o else if t' = o then t else t') < 10 := by
      split
      · exact ho
      · split
        · exact ht
        · exact ⟨h0, h1⟩
    have z := t6 _ hb.1 hb.2
    unfold sum6 at z ⊢
    rw [e0, EXs_at (t' := t') (c := 1) ht ho ⟨h0, h1⟩ (by decide) hl, EXs_at (t' := t') (c := 2) ht ho ⟨h0, h1⟩ (by decide) hl, EXs_at (t' := t') (c := 3) ht ho ⟨h0, h1⟩ (by decide) hl, EXs_at (t' := t') (c := 4) ht ho ⟨h0, h1⟩ (by decide) hl, EXs_at (t' := t') (c := 5) ht ho ⟨h0, h1⟩ (by decide) hl]
    exact z

theorem l_isFree {A : Nat → List Int} {F : Nat → Int} (hL : LENS A) (hn : 0 ≤ F 16 ∧ F 16 ≤ 30) (hb : ∀ i : Nat, (i : Int) < F 16 → 0 ≤ rd (A 81) i ∧ rd (A 81) i ≤ 700 ∧ 1 ≤ rd (A 82) i ∧ rd (A 82) i ≤ 99) (hH : ∀ i : Nat, (i : Int) < F 16 → rd (A 83) i = 0 ∨ rd (A 83) i = 1) {t a b : Int} : R 23 (0, L0 23 [vR 79, vI t, vI a, vI b], [], LAY A F, 0, 0) (fun r G => r = some (vI (if LFc (A 80) (A 81) (A 82) (A 83) t a b (F 16).toNat = 0 then 1 else 0)) ∧ G = LAY A F) := by
  have h80 : (A 80).length = 30 := hL 80 (by decide)
  have h81 : (A 81).length = 30 := hL 81 (by decide)
  have h82 : (A 82).length = 30 := hL 82 (by decide)
  have h83 : (A 83).length = 30 := hL 83 (by decide)
  have lp : ∀ (m i : Nat) (x : Int), x = (i : Int) → LFc (A 80) (A 81) (A 82) (A 83) t a b i = 0 → i ≤ (F 16).toNat → (F 16).toNat + 1 ≤ i + m → R 23 (3, [some (vR 79), some (vI t), some (vI a), some (vI b), some (vI x)], [], LAY A F, 0, 0) (fun r G => r = some (vI (if LFc (A 80) (A 81) (A 82) (A 83) t a b (F 16).toNat = 0 then 1 else 0)) ∧ G = LAY A F) := by
    intro m
    induction m with
    | zero =>
      intro i x ex hz hi hm
      exact absurd hm (by omega)
    | succ m ih =>
      intro i x ex hz hi hm
      have hbi := hb i
      have hHi := hH i
      rw [← ex] at hbi hHi
      refine R_s (P := True) (f' := (9, [some (vR 79), some (vI t), some (vI a), some (vI b), some (vI x)], [vI (F 16), vI x], LAY A F, 0, 0)) hc23 3 rfl trivial ?_
      refine R_ic (t := 71) hc23 rfl rfl (fun (c1 : F 16 ≤ x) => ?_) (fun (c1 : ¬ (F 16 ≤ x)) => ?_)
      · refine R_s (P := True) (f' := (72, [some (vR 79), some (vI t), some (vI a), some (vI b), some (vI x)], [vI 1], LAY A F, 0, 0)) hc23 1 rfl trivial ?_
        exact R_retz hc23 rfl rfl (Or.inr rfl) ⟨by rw [show (F 16).toNat = i by omega, hz]; rfl, rfl⟩
      · refine R_s (P := (0 ≤ x ∧ x < ((A 83).length : Int)) ∧ True) (f' := (19, [some (vR 79), some (vI t), some (vI a), some (vI b), some (vI x)], [vI (rd (A 83) x)], LAY A F, 0, 0)) hc23 4 rfl ⟨⟨by omega, by omega⟩, trivial⟩ ?_
        refine R_if (t := 65) hc23 rfl rfl (fun (c2 : rd (A 83) x = 0) => ?_) (fun (c2 : ¬ (rd (A 83) x = 0)) => ?_)
        · refine R_s (P := inI (x + 1) ∧ True) (f' := (3, [some (vR 79), some (vI t), some (vI a), some (vI b), some (vI (x + 1))], [], LAY A F, 0, 0)) hc23 2 rfl ⟨⟨by omega, by omega⟩, trivial⟩ ?_
          refine ih (i + 1) _ (by omega) ?_ (by omega) (by omega)
          subst ex
          simp only [LFc]
          rw [hz, if_neg (fun z => by omega)]
          rfl
        · refine R_s (P := (0 ≤ x ∧ x < ((A 80).length : Int)) ∧ True) (f' := (30, [some (vR 79), some (vI t), some (vI a), some (vI b), some (vI x)], [vI t, vI (rd (A 80) x)], LAY A F, 0, 0)) hc23 5 rfl ⟨⟨by omega, by omega⟩, trivial⟩ ?_
          refine R_ic (t := 65) hc23 rfl rfl (fun (c3 : ¬ rd (A 80) x = t) => ?_) (fun (c3 : ¬ (¬ rd (A 80) x = t)) => ?_)
          · refine R_s (P := inI (x + 1) ∧ True) (f' := (3, [some (vR 79), some (vI t), some (vI a), some (vI b), some (vI (x + 1))], [], LAY A F, 0, 0)) hc23 2 rfl ⟨⟨by omega, by omega⟩, trivial⟩ ?_
            refine ih (i + 1) _ (by omega) ?_ (by omega) (by omega)
            subst ex
            simp only [LFc]
            rw [hz, if_neg (fun z => by omega)]
            rfl
          · refine R_s (P := (0 ≤ x ∧ x < ((A 81).length : Int)) ∧ True) (f' := (41, [some (vR 79), some (vI t), some (vI a), some (vI b), some (vI x)], [vI b, vI (rd (A 81) x)], LAY A F, 0, 0)) hc23 5 rfl ⟨⟨by omega, by omega⟩, trivial⟩ ?_
            refine R_ic (t := 65) hc23 rfl rfl (fun (c4 : b ≤ rd (A 81) x) => ?_) (fun (c4 : ¬ (b ≤ rd (A 81) x)) => ?_)
            · refine R_s (P := inI (x + 1) ∧ True) (f' := (3, [some (vR 79), some (vI t), some (vI a), some (vI b), some (vI (x + 1))], [], LAY A F, 0, 0)) hc23 2 rfl ⟨⟨by omega, by omega⟩, trivial⟩ ?_
              refine ih (i + 1) _ (by omega) ?_ (by omega) (by omega)
              subst ex
              simp only [LFc]
              rw [hz, if_neg (fun z => by omega)]
              rfl
            · refine R_s (P := (0 ≤ x ∧ x < ((A 81).length : Int)) ∧ (0 ≤ x ∧ x < ((A 82).length : Int)) ∧ inI ((rd (A 81) x) + (rd (A 82) x)) ∧ True) (f' := (60, [some (vR 79), some (vI t), some (vI a), some (vI b), some (vI x)], [vI ((rd (A 81) x) + (rd (A 82) x)), vI a], LAY A F, 0, 0)) hc23 10 rfl ⟨⟨by omega, by omega⟩, ⟨by omega, by omega⟩, ⟨by omega, by omega⟩, trivial⟩ ?_
              refine R_ic (t := 65) hc23 rfl rfl (fun (c5 : (rd (A 81) x) + (rd (A 82) x) ≤ a) => ?_) (fun (c5 : ¬ ((rd (A 81) x) + (rd (A 82) x) ≤ a)) => ?_)
              · refine R_s (P := inI (x + 1) ∧ True) (f' := (3, [some (vR 79), some (vI t), some (vI a), some (vI b), some (vI (x + 1))], [], LAY A F, 0, 0)) hc23 2 rfl ⟨⟨by omega, by omega⟩, trivial⟩ ?_
                refine ih (i + 1) _ (by omega) ?_ (by omega) (by omega)
                subst ex
                simp only [LFc]
                rw [hz, if_neg (fun z => by omega)]
                rfl
              · refine R_s (P := True) (f' := (64, [some (vR 79), some (vI t), some (vI a), some (vI b), some (vI x)], [vI 0], LAY A F, 0, 0)) hc23 1 rfl trivial ?_
                refine R_retz hc23 rfl rfl (Or.inl rfl) ⟨?_, rfl⟩
                have z1 := hbi (by omega)
                have z2 := hHi (by omega)
                subst ex
                rw [if_neg (LFc_hit (i := i) (by omega) ⟨by omega, by omega, by omega, by omega⟩)]
  refine R_s (P := True) (f' := (3, [some (vR 79), some (vI t), some (vI a), some (vI b), some (vI 0)], [], LAY A F, 0, 0)) hc23 2 rfl trivial ?_
  exact lp ((F 16).toNat + 1) 0 _ rfl rfl (by omega) (by omega)

theorem l_isLeased {A : Nat → List Int} {F : Nat → Int} (hn : 0 ≤ F 22 ∧ F 22 ≤ 30) (h102 : (A 102).length = 90) (h103 : (A 103).length = 30) {T Fr Y : List Int} (hb : ∀ i : Nat, (i : Int) < F 22 → rd (A 102) (3 * i) = rd T i ∧ rd (A 102) (3 * i + 1) = rd Fr i ∧ rd (A 102) (3 * i + 2) = rd Y i ∧ 0 ≤ rd Fr i ∧ rd Fr i ≤ 700 ∧ 1 ≤ rd Y i ∧ rd Y i ≤ 99) (hH : ∀ i : Nat, (i : Int) < F 22 → rd (A 103) i = 0 ∨ rd (A 103) i = 1) {t a z : Int} : R 157 (0, L0 157 [vR 88, vI t, vI a, vI z], [], LAY A F, 0, 0) (fun r G => r = some (vI (if LFc T Fr Y (A 103) t a (z + 1) (F 22).toNat = 0 then 0 else 1)) ∧ G = LAY A F) := by
  have lp : ∀ (m i : Nat) (x : Int), x = (i : Int) → LFc T Fr Y (A 103) t a (z + 1) i = 0 → i ≤ (F 22).toNat → (F 22).toNat + 1 ≤ i + m → R 157 (3, [some (vR 88), some (vI t), some (vI a), some (vI z), some (vI x)], [], LAY A F, 0, 0) (fun r G => r = some (vI (if LFc T Fr Y (A 103) t a (z + 1) (F 22).toNat = 0 then 0 else 1)) ∧ G = LAY A F) := by
    intro m
    induction m with
    | zero =>
      intro i x ex hz hi hm
      exact absurd hm (by omega)
    | succ m ih =>
      intro i x ex hz hi hm
      have hbi := hb i
      have hHi := hH i
      rw [← ex] at hbi hHi
      refine R_s (P := True) (f' := (9, [some (vR 88), some (vI t), some (vI a), some (vI z), some (vI x)], [vI (F 22), vI x], LAY A F, 0, 0)) hc157 3 rfl trivial ?_
      refine R_ic (t := 87) hc157 rfl rfl (fun (c1 : F 22 ≤ x) => ?_) (fun (c1 : ¬ (F 22 ≤ x)) => ?_)
      · refine R_s (P := True) (f' := (88, [some (vR 88), some (vI t), some (vI a), some (vI z), some (vI x)], [vI 0], LAY A F, 0, 0)) hc157 1 rfl trivial ?_
        exact R_retz hc157 rfl rfl (Or.inl rfl) ⟨by rw [show (F 22).toNat = i by omega, hz]; rfl, rfl⟩
      · refine R_s (P := (0 ≤ x ∧ x < ((A 103).length : Int)) ∧ True) (f' := (19, [some (vR 88), some (vI t), some (vI a), some (vI z), some (vI x)], [vI (rd (A 103) x)], LAY A F, 0, 0)) hc157 4 rfl ⟨⟨by omega, by omega⟩, trivial⟩ ?_
        refine R_if (t := 81) hc157 rfl rfl (fun (c2 : rd (A 103) x = 0) => ?_) (fun (c2 : ¬ (rd (A 103) x = 0)) => ?_)
        · refine R_s (P := inI (x + 1) ∧ True) (f' := (3, [some (vR 88), some (vI t), some (vI a), some (vI z), some (vI (x + 1))], [], LAY A F, 0, 0)) hc157 2 rfl ⟨⟨by omega, by omega⟩, trivial⟩ ?_
          refine ih (i + 1) _ (by omega) ?_ (by omega) (by omega)
          have z1 := hbi (by omega)
          subst ex
          simp only [LFc]
          rw [hz, if_neg (fun z => by omega)]
          rfl
        · refine R_s (P := inI (3 * x) ∧ (0 ≤ 3 * x ∧ 3 * x < ((A 102).length : Int)) ∧ True) (f' := (32, [some (vR 88), some (vI t), some (vI a), some (vI z), some (vI x)], [vI t, vI (rd (A 102) (3 * x))], LAY A F, 0, 0)) hc157 7 rfl ⟨⟨by omega, by omega⟩, ⟨by omega, by omega⟩, trivial⟩ ?_
          refine R_ic (t := 81) hc157 rfl rfl (fun (c3 : ¬ rd (A 102) (3 * x) = t) => ?_) (fun (c3 : ¬ (¬ rd (A 102) (3 * x) = t)) => ?_)
          · refine R_s (P := inI (x + 1) ∧ True) (f' := (3, [some (vR 88), some (vI t), some (vI a), some (vI z), some (vI (x + 1))], [], LAY A F, 0, 0)) hc157 2 rfl ⟨⟨by omega, by omega⟩, trivial⟩ ?_
            refine ih (i + 1) _ (by omega) ?_ (by omega) (by omega)
            have z1 := hbi (by omega)
            subst ex
            simp only [LFc]
            rw [hz, if_neg (fun z => by omega)]
            rfl
          · refine R_s (P := inI (3 * x) ∧ inI ((3 * x) + 1) ∧ (0 ≤ (3 * x) + 1 ∧ (3 * x) + 1 < ((A 102).length : Int)) ∧ True) (f' := (47, [some (vR 88), some (vI t), some (vI a), some (vI z), some (vI x)], [vI z, vI (rd (A 102) ((3 * x) + 1))], LAY A F, 0, 0)) hc157 9 rfl ⟨⟨by omega, by omega⟩, ⟨by omega, by omega⟩, ⟨by omega, by omega⟩, trivial⟩ ?_
            refine R_ic (t := 81) hc157 rfl rfl (fun (c4 : z < rd (A 102) ((3 * x) + 1)) => ?_) (fun (c4 : ¬ (z < rd (A 102) ((3 * x) + 1))) => ?_)
            · refine R_s (P := inI (x + 1) ∧ True) (f' := (3, [some (vR 88), some (vI t), some (vI a), some (vI z), some (vI (x + 1))], [], LAY A F, 0, 0)) hc157 2 rfl ⟨⟨by omega, by omega⟩, trivial⟩ ?_
              refine ih (i + 1) _ (by omega) ?_ (by omega) (by omega)
              have z1 := hbi (by omega)
              subst ex
              simp only [LFc]
              rw [hz, if_neg (fun z => by omega)]
              rfl
            · refine R_s (P := inI (3 * x) ∧ inI ((3 * x) + 1) ∧ (0 ≤ (3 * x) + 1 ∧ (3 * x) + 1 < ((A 102).length : Int)) ∧ inI (3 * x) ∧ inI ((3 * x) + 2) ∧ (0 ≤ (3 * x) + 2 ∧ (3 * x) + 2 < ((A 102).length : Int)) ∧ inI ((rd (A 102) ((3 * x) + 1)) + (rd (A 102) ((3 * x) + 2))) ∧ inI (((rd (A 102) ((3 * x) + 1)) + (rd (A 102) ((3 * x) + 2))) - 1) ∧ True) (f' := (76, [some (vR 88), some (vI t), some (vI a), some (vI z), some (vI x)], [vI (((rd (A 102) ((3 * x) + 1)) + (rd (A 102) ((3 * x) + 2))) - 1), vI a], LAY A F, 0, 0)) hc157 20 rfl ⟨⟨by omega, by omega⟩, ⟨by omega, by omega⟩, ⟨by omega, by omega⟩, ⟨by omega, by omega⟩, ⟨by omega, by omega⟩, ⟨by omega, by omega⟩, ⟨by omega, by omega⟩, ⟨by omega, by omega⟩, trivial⟩ ?_
              refine R_ic (t := 81) hc157 rfl rfl (fun (c5 : ((rd (A 102) ((3 * x) + 1)) + (rd (A 102) ((3 * x) + 2))) - 1 < a) => ?_) (fun (c5 : ¬ (((rd (A 102) ((3 * x) + 1)) + (rd (A 102) ((3 * x) + 2))) - 1 < a)) => ?_)
              · refine R_s (P := inI (x + 1) ∧ True) (f' := (3, [some (vR 88), some (vI t), some (vI a), some (vI z), some (vI (x + 1))], [], LAY A F, 0, 0)) hc157 2 rfl ⟨⟨by omega, by omega⟩, trivial⟩ ?_
                refine ih (i + 1) _ (by omega) ?_ (by omega) (by omega)
                have z1 := hbi (by omega)
                subst ex
                simp only [LFc]
                rw [hz, if_neg (fun z => by omega)]
                rfl
              · refine R_s (P := True) (f' := (80, [some (vR 88), some (vI t), some (vI a), some (vI z), some (vI x)], [vI 1], LAY A F, 0, 0)) hc157 1 rfl trivial ?_
                refine R_retz hc157 rfl rfl (Or.inr rfl) ⟨?_, rfl⟩
                have z1 := hbi (by omega)
                have z2 := hHi (by omega)
                subst ex
                rw [if_neg (LFc_hit (i := i) (by omega) ⟨by omega, by omega, by omega, by omega⟩)]
  refine R_s (P := True) (f' := (3, [some (vR 88), some (vI t), some (vI a), some (vI z), some (vI 0)], [], LAY A F, 0, 0)) hc157 2 rfl trivial ?_
  exact lp ((F 22).toNat + 1) 0 _ rfl rfl (by omega) (by omega)

theorem l_exchange {A : Nat → List Int} {F : Nat → Int} (h16 : (A 16).length = 60) {t o : Int} (ht : 0 ≤ t ∧ t < 10) (ho : 0 ≤ o ∧ o < 10) (hne : ¬ t = o) : R 58 (0, L0 58 [vR 12, vI t, vI o], [], LAY A F, 0, 0) (fun r G => r = none ∧ ∃ l16, G = LAY (u A 16 l16) F ∧ l16.length = 60 ∧ ∀ j : Nat, j < 60 → rd l16 j = EXs (A 16) t o 6 j) := by
  have lp : ∀ (m i : Nat) (x : Int) (v4 : Option AV) (v5 : Option AV) (v6 : Option AV) (l : List Int), x = (i : Int) → l.length = 60 → (∀ j : Nat, j < 60 → rd l j = EXs (A 16) t o i j) → i ≤ 6 → 6 + 1 ≤ i + m → R 58 (2, [some (vR 12), some (vI t), some (vI o), some (vI x), v4, v5, v6], [], LAY (u A 16 l) F, 0, 0) (fun r G => r = none ∧ ∃ l16, G = LAY (u A 16 l16) F ∧ l16.length = 60 ∧ ∀ j : Nat, j < 60 → rd l16 j = EXs (A 16) t o 6 j) := by
    intro m
    induction m with
    | zero =>
      intro i x v4 v5 v6 l ex hl hz hi hm
      exact absurd hm (by omega)
    | succ m ih =>
      intro i x v4 v5 v6 l ex hl hz hi hm
      refine R_s (P := True) (f' := (5, [some (vR 12), some (vI t), some (vI o), some (vI x), v4, v5, v6], [vI 6, vI x], LAY (u A 16 l) F, 0, 0)) hc58 2 rfl trivial ?_
      refine R_ic (t := 62) hc58 rfl rfl (fun (c1 : 6 ≤ x) => ?_) (fun (c1 : ¬ (6 ≤ x)) => ?_)
      · exact R_retv hc58 rfl rfl ⟨rfl, l, rfl, hl, fun j hj => by rw [hz j hj, show i = 6 by omega]; rfl⟩
      · refine R_s (P := inI (t * 6) ∧ inI ((t * 6) + x) ∧ inI (o * 6) ∧ inI ((o * 6) + x) ∧ (0 ≤ (t * 6) + x ∧ (t * 6) + x < ((l).length : Int)) ∧ (0 ≤ (o * 6) + x ∧ (o * 6) + x < ((l).length : Int)) ∧ (0 ≤ (t * 6) + x ∧ (t * 6) + x < ((l).length : Int)) ∧ (0 ≤ (o * 6) + x ∧ (o * 6) + x < ((wr l ((t * 6) + x) (rd l ((o * 6) + x))).length : Int)) ∧ inI (x + 1) ∧ True) (f' := (2, [some (vR 12), some (vI t), some (vI o), some (vI (x + 1)), some (vI ((t * 6) + x)), some (vI ((o * 6) + x)), some (vI (rd l ((t * 6) + x)))], [], LAY (u A 16 (wr (wr l ((t * 6) + x) (rd l ((o * 6) + x))) ((o * 6) + x) (rd l ((t * 6) + x)))) F, 0, 0)) hc58 32 rfl ⟨⟨by omega, by omega⟩, ⟨by omega, by omega⟩, ⟨by omega, by omega⟩, ⟨by omega, by omega⟩, ⟨by omega, by omega⟩, ⟨by omega, by omega⟩, ⟨by omega, by omega⟩, ⟨by omega, by simp only [wr_len]; omega⟩, ⟨by omega, by omega⟩, trivial⟩ ?_
        refine ih (i + 1) _ _ _ _ _ (by omega) (by simp only [wr_len]; exact hl) (fun j hj => ?_) (by omega) (by omega)
        have z := EXs_step hl ht ho hne (i := i) (by omega) hz j hj
        rw [← ex] at z
        rw [z]
        rw [ex]
        rfl
  refine R_s (P := True) (f' := (0, [some (vR 12), some (vI t), some (vI o), none, none, none, none], [], LAY (u A 16 (A 16)) F, 0, 0)) hc58 0 (by rw [u_self]; rfl) trivial ?_
  refine R_s (P := True) (f' := (2, [some (vR 12), some (vI t), some (vI o), some (vI 0), none, none, none], [], LAY (u A 16 (A 16)) F, 0, 0)) hc58 2 rfl trivial ?_
  exact lp 7 0 _ _ _ _ _ rfl h16 (fun j _ => EXs_0.symm) (by omega) (by omega)

theorem swap_M {A : Nat → List Int} {F : Nat → Int} (h98 : (A 98).length = 60) {t o w : Int} (ht : 0 ≤ t ∧ t < 10) (ho : 0 ≤ o ∧ o < 10) (hne : ¬ t = o) {post : Option AV → AG → Prop} (hk : ∀ (x : Int) (v5 : Option AV) (l : List Int), l.length = 60 → (∀ j : Nat, j < 60 → rd l j = EXs (A 98) t o 6 j) → R 162 (157, [some (vR 88), some (vI t), some (vI o), some (vI w), some (vI x), v5], [], LAY (u A 98 l) F, 0, 0) post) : R 162 (92, [some (vR 88), some (vI t), some (vI o), some (vI w), some (vI 0), none], [], LAY A F, 0, 0) post := by
  have lp : ∀ (m i : Nat) (x : Int) (v5 : Option AV) (l : List Int), x = (i : Int) → l.length = 60 → (∀ j : Nat, j < 60 → rd l j = EXs (A 98) t o i j) → i ≤ 6 → 6 + 1 ≤ i + m → R 162 (92, [some (vR 88), some (vI t), some (vI o), some (vI w), some (vI x), v5], [], LAY (u A 98 l) F, 0, 0) post := by
    intro m
    induction m with
    | zero =>
      intro i x v5 l ex hl hz hi hm
      exact absurd hm (by omega)
    | succ m ih =>
      intro i x v5 l ex hl hz hi hm
      have et : 6 * t + x = t * 6 + i := by omega
      have eo : 6 * o + x = o * 6 + i := by omega
      refine R_s (P := True) (f' := (96, [some (vR 88), some (vI t), some (vI o), some (vI w), some (vI x), v5], [vI 6, vI x], LAY (u A 98 l) F, 0, 0)) hc162 2 rfl trivial ?_
      refine R_ic (t := 157) hc162 rfl rfl (fun (c1 : 6 ≤ x) => ?_) (fun (c1 : ¬ (6 ≤ x)) => ?_)
      · exact hk x v5 l hl (fun j hj => by rw [hz j hj, show i = 6 by omega]; rfl)
      · refine R_s (P := inI (6 * t) ∧ inI ((6 * t) + x) ∧ (0 ≤ (6 * t) + x ∧ (6 * t) + x < ((l).length : Int)) ∧ inI (6 * t) ∧ inI ((6 * t) + x) ∧ inI (6 * o) ∧ inI ((6 * o) + x) ∧ (0 ≤ (6 * o) + x ∧ (6 * o) + x < ((l).length : Int)) ∧ (0 ≤ (6 * t) + x ∧ (6 * t) + x < ((l).length : Int)) ∧ inI (6 * o) ∧ inI ((6 * o) + x) ∧ (0 ≤ (6 * o) + x ∧ (6 * o) + x < ((wr l ((6 * t) + x) (rd l ((6 * o) + x))).length : Int)) ∧ inI (x + 1) ∧ True) (f' := (92, [some (vR 88), some (vI t), some (vI o), some (vI w), some (vI (x + 1)), some (vI (rd l ((6 * t) + x)))], [], LAY (u A 98 (wr (wr l ((6 * t) + x) (rd l ((6 * o) + x))) ((6 * o) + x) (rd l ((6 * t) + x)))) F, 0, 0)) hc162 36 rfl ⟨⟨by omega, by omega⟩, ⟨by omega, by omega⟩, ⟨by omega, by omega⟩, ⟨by omega, by omega⟩, ⟨by omega, by omega⟩, ⟨by omega, by omega⟩, ⟨by omega, by omega⟩, ⟨by omega, by omega⟩, ⟨by omega, by omega⟩, ⟨by omega, by omega⟩, ⟨by omega, by omega⟩, ⟨by omega, by simp only [wr_len]; omega⟩, ⟨by omega, by omega⟩, trivial⟩ ?_
        refine ih (i + 1) _ _ _ (by omega) (by simp only [wr_len]; exact hl) (fun j hj => ?_) (by omega) (by omega)
        rw [et, eo]
        exact EXs_step hl ht ho hne (i := i) (by omega) hz j hj
  refine R_s (P := True) (f' := (92, [some (vR 88), some (vI t), some (vI o), some (vI w), some (vI 0), none], [], LAY (u A 98 (A 98)) F, 0, 0)) hc162 0 (by rw [u_self]; rfl) trivial ?_
  exact lp 7 0 _ _ _ rfl h98 (fun j _ => EXs_0.symm) (by omega) (by omega)

theorem copy_M {A : Nat → List Int} {F : Nat → Int} (h112 : (A 112).length = 30) (h113 : (A 113).length = 30) {a b n : Int} (ha : 0 ≤ a ∧ a + n ≤ 30) (hb : 0 ≤ b ∧ b + n ≤ 30) (hn : 0 ≤ n) {post : Option AV → AG → Prop} (hk : ∀ (x : Int) (l113 l112 : List Int), l112.length = 30 → l113.length = 30 → (∀ j : Nat, j < 30 → rd l112 j = if b ≤ j ∧ j < b + n then rd (A 112) (a + (j - b)) else rd (A 112) j) → R 167 (139, [some (vR 88), some (vI a), some (vI b), some (vI n), some (vI x)], [], LAY (u (u A 113 l113) 112 l112) F, 0, 0) post) : R 167 (77, [some (vR 88), some (vI a), some (vI b), some (vI n), none], [], LAY A F, 0, 0) post := by
  have lp : ∀ (m i : Nat) (x : Int) (l : List Int), x = (i : Int) → l.length = 30 → (∀ j : Nat, j < i → rd l j = rd (A 112) (a + j)) → i ≤ n.toNat → n.toNat + 1 ≤ i + m → R 167 (80, [some (vR 88), some (vI a), some (vI b), some (vI n), some (vI x)], [], LAY (u A 113 l) F, 0, 0) post := by
    intro m
    induction m with
    | zero =>
      intro i x l ex hl hz hi hm
      exact absurd hm (by omega)
    | succ m ih =>
      intro i x l ex hl hz hi hm
      refine R_s (P := True) (f' := (83, [some (vR 88), some (vI a), some (vI b), some (vI n), some (vI x)], [vI n, vI x], LAY (u A 113 l) F, 0, 0)) hc167 2 rfl trivial ?_
      refine R_ic (t := 108) hc167 rfl rfl (fun (c1 : n ≤ x) => ?_) (fun (c1 : ¬ (n ≤ x)) => ?_)
      · refine R_s (P := True) (f' := (111, [some (vR 88), some (vI a), some (vI b), some (vI n), some (vI 0)], [], LAY (u A 113 l) F, 0, 0)) hc167 2 rfl trivial ?_
        have lp2 : ∀ (mk k : Nat) (x : Int) (m : List Int), x = (k : Int) → m.length = 30 → (∀ j : Nat, j < 30 → rd m j = if b ≤ j ∧ j < b + k then rd (A 112) (a + (j - b)) else rd (A 112) j) → k ≤ n.toNat → n.toNat + 1 ≤ k + mk → R 167 (111, [some (vR 88), some (vI a), some (vI b), some (vI n), some (vI x)], [], LAY (u (u A 113 l) 112 m) F, 0, 0) post := by
          intro mk
          induction mk with
          | zero =>
            intro k x m ex hm1 hy hk1 hmk
            exact absurd hmk (by omega)
          | succ mk ihk =>
            intro k x m ex hm1 hy hk1 hmk
            have hzk := hz k
            rw [← ex] at hzk
            refine R_s (P := True) (f' := (114, [some (vR 88), some (vI a), some (vI b), some (vI n), some (vI x)], [vI n, vI x], LAY (u (u A 113 l) 112 m) F, 0, 0)) hc167 2 rfl trivial ?_
            refine R_ic (t := 139) hc167 rfl rfl (fun (c1 : n ≤ x) => ?_) (fun (c1 : ¬ (n ≤ x)) => ?_)
            · refine hk x l m hm1 hl (fun j hj => ?_)
              rw [hy j hj, show (k : Int) = n by omega]
            · refine R_s (P := inI (b + x) ∧ (0 ≤ x ∧ x < ((l).length : Int)) ∧ (0 ≤ b + x ∧ b + x < ((m).length : Int)) ∧ inI (x + 1) ∧ True) (f' := (111, [some (vR 88), some (vI a), some (vI b), some (vI n), some (vI (x + 1))], [], LAY (u (u A 113 l) 112 (wr m (b + x) (rd l x))) F, 0, 0)) hc167 12 rfl ⟨⟨by omega, by omega⟩, ⟨by omega, by omega⟩, ⟨by omega, by omega⟩, ⟨by omega, by omega⟩, trivial⟩ ?_
              refine ihk (k + 1) _ _ (by omega) (by rw [wr_len]; exact hm1) (fun j hj => ?_) (by omega) (by omega)
              rw [rd_wr (by omega) (by omega) (by omega)]
              by_cases e9 : (j : Int) = b + x
              · have a1 : b ≤ (j : Int) ∧ (j : Int) < b + ((k + 1 : Nat) : Int) := ⟨by omega, by omega⟩
                rw [if_pos e9, if_pos a1, hzk (by omega), show a + ((j : Int) - b) = a + x by omega]
              · rw [if_neg e9, hy j hj]
                by_cases e3 : b ≤ (j : Int) ∧ (j : Int) < b + k
                · have a1 : b ≤ (j : Int) ∧ (j : Int) < b + ((k + 1 : Nat) : Int) := ⟨by omega, by omega⟩
                  rw [if_pos e3, if_pos a1]
                · have a1 : ¬ (b ≤ (j : Int) ∧ (j : Int) < b + ((k + 1 : Nat) : Int)) := fun z => e3 ⟨by omega, by omega⟩
                  rw [if_neg e3, if_neg a1]
        refine R_s (P := True) (f' := (111, [some (vR 88), some (vI a), some (vI b), some (vI n), some (vI 0)], [], LAY (u (u A 113 l) 112 (A 112)) F, 0, 0)) hc167 0 rfl trivial ?_
        exact lp2 (n.toNat + 1) 0 _ _ rfl h112 (fun j hj => by rw [if_neg (by omega)]) (by omega) (by omega)
      · refine R_s (P := inI (a + x) ∧ (0 ≤ a + x ∧ a + x < ((A 112).length : Int)) ∧ (0 ≤ x ∧ x < ((l).length : Int)) ∧ inI (x + 1) ∧ True) (f' := (80, [some (vR 88), some (vI a), some (vI b), some (vI n), some (vI (x + 1))], [], LAY (u A 113 (wr l x (rd (A 112) (a + x)))) F, 0, 0)) hc167 12 rfl ⟨⟨by omega, by omega⟩, ⟨by omega, by omega⟩, ⟨by omega, by omega⟩, ⟨by omega, by omega⟩, trivial⟩ ?_
        refine ih (i + 1) _ _ (by omega) (by rw [wr_len]; exact hl) (fun j hj => ?_) (by omega) (by omega)
        rw [rd_wr (by omega) (by omega) (by omega)]
        split
        · rename_i q
          rw [q]
        · exact hz j (by omega)
  refine R_s (P := True) (f' := (80, [some (vR 88), some (vI a), some (vI b), some (vI n), some (vI 0)], [], LAY (u A 113 (A 113)) F, 0, 0)) hc167 2 (by rw [u_self]; rfl) trivial ?_
  exact lp (n.toNat + 1) 0 _ _ rfl h113 (fun j hj => absurd hj (by omega)) (by omega) (by omega)

