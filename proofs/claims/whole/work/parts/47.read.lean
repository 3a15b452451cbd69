/-- the letter's kind; the pieces of an end -/
def eK (l : List Int) (n : Int) (i : Nat) (s : Int × Int) : Int := if nx l n s.2 = 102 ∧ i < 5 then 0 else if nx l n s.2 = 108 ∧ i < 5 then 1 else if nx l n s.2 = 109 ∧ i = 0 then 2 else 3
def pN (l : List Int) (n : Int) (w : List Int) (s : Int × Int) : (Int × Int) × Int := dG l n 4 (wD l n w s)
def pR (l : List Int) (n : Int) (w : List Int) (s : Int × Int) : (Int × Int) × Int := dG l n 2 (wD l n PP (pN l n w s).1)
def pL (l : List Int) (n : Int) (s : Int × Int) : Int × Int := wD l n SPC (pR l n LINE s).1
def pH (l : List Int) (n : Int) (s : Int × Int) : (Int × Int) × Int := hS l n (wD l n SPC (pN l n FIX s).1)
/-- the state ahead of an end's test; behind the end -/
def tB (l : List Int) (n : Int) (i : Nat) (s : Int × Int) : Int × Int := if eK l n i s = 0 then (pH l n s).1 else if eK l n i s = 1 then (if nx l n (pL l n s).2 = 115 then wD l n STEM (pL l n s) else wD l n HEADS (pL l n s)) else (pR l n MAN s).1
def eN (l : List Int) (n : Int) (i : Nat) (s : Int × Int) : Int × Int := if eK l n i s = 3 then (hS l n (wD l n REST s)).1 else tS l n (tB l n i s)
def eV (l : List Int) (n : Int) (i : Nat) (s : Int × Int) (k nu ro ho he fi si th : Int) : Prop :=
  k = eK l n i s ∧ (k = 0 → nu = (pN l n FIX s).2 ∧ ho = (pH l n s).2) ∧ (k = 1 → nu = (pN l n LINE s).2 ∧ ro = (pR l n LINE s).2 ∧ he = (if nx l n (pL l n s).2 = 115 then 0 else 1)) ∧
  (k = 2 → nu = (pN l n MAN s).2 ∧ ro = (pR l n MAN s).2) ∧ (k = 3 → ho = (hS l n (wD l n REST s)).2 ∧ fi = 0) ∧
  (k ≠ 3 → fi = tF l n (tB l n i s) + 1 ∧ (fi = 0 ∨ (si = tG l n (tB l n i s) ∧ th = tH l n (tB l n i s))))
theorem eN_0 {l : List Int} {n : Int} {i : Nat} {s : Int × Int} (h : eK l n i s = 0) : eN l n i s = tS l n (tB l n i s) ∧ tB l n i s = (pH l n s).1 := by
  unfold eN tB
  rw [if_neg (by omega), if_pos h]
  exact ⟨rfl, rfl⟩
theorem eN_1 {l : List Int} {n : Int} {i : Nat} {s : Int × Int} (h : eK l n i s = 1) : eN l n i s = tS l n (tB l n i s) ∧ tB l n i s = if nx l n (pL l n s).2 = 115 then wD l n STEM (pL l n s) else wD l n HEADS (pL l n s) := by
  unfold eN tB
  rw [if_neg (by omega), if_neg (by omega), if_pos h]
  exact ⟨rfl, rfl⟩
theorem eN_2 {l : List Int} {n : Int} {i : Nat} {s : Int × Int} (h : eK l n i s = 2) : eN l n i s = tS l n (tB l n i s) ∧ tB l n i s = (pR l n MAN s).1 := by
  unfold eN tB
  rw [if_neg (by omega), if_neg (by omega), if_neg (by omega)]
  exact ⟨rfl, rfl⟩
theorem eN_3 {l : List Int} {n : Int} {i : Nat} {s : Int × Int} (h : eK l n i s = 3) : eN l n i s = (hS l n (wD l n REST s)).1 := by
  unfold eN
  rw [if_pos h]
theorem eK_5 {l : List Int} {n : Int} {s : Int × Int} : eK l n 5 s = 3 := by
  unfold eK
  rw [if_neg (fun z => absurd z.2 (by decide)), if_neg (fun z => absurd z.2 (by decide)), if_neg (fun z => absurd z.2 (by decide))]
theorem eK_c {l : List Int} {n : Int} {i : Nat} {s : Int × Int} : eK l n i s = 0 ∨ eK l n i s = 1 ∨ (eK l n i s = 2 ∧ i = 0) ∨ eK l n i s = 3 := by
  unfold eK
  split
  · exact .inl rfl
  · split
    · exact .inr (.inl rfl)
    · split
      · rename_i q
        exact .inr (.inr (.inl ⟨rfl, q.2⟩))
      · exact .inr (.inr (.inr rfl))
/-- the states of the ends; how a tape is read as a whole -/
def sT (l : List Int) (n : Int) : Nat → Int × Int
  | 0 => (0, 0)
  | i + 1 => wD l n SEMI (eN l n i (sT l n i))
def gO (l : List Int) (n : Int) (i : Nat) : Prop := ∀ j, j < i → (eN l n j (sT l n j)).1 = 0 ∧ eK l n j (sT l n j) ≠ 3 ∧ (sT l n (j + 1)).1 = 0
def fAIL (l : List Int) (n : Int) (p : Int) : Prop := ∃ i, i < 6 ∧ gO l n i ∧ (((eN l n i (sT l n i)).1 ≠ 0 ∧ p = (eN l n i (sT l n i)).2) ∨ ((eN l n i (sT l n i)).1 = 0 ∧ eK l n i (sT l n i) = 3 ∧ (eN l n i (sT l n i)).2 ≠ n ∧ p = (eN l n i (sT l n i)).2) ∨ ((eN l n i (sT l n i)).1 = 0 ∧ eK l n i (sT l n i) ≠ 3 ∧ (sT l n (i + 1)).1 ≠ 0 ∧ p = (sT l n (i + 1)).2))
def sUCC (l : List Int) (n : Int) (e : Nat) : Prop := ∃ i, e = i + 1 ∧ i < 6 ∧ gO l n i ∧ eN l n i (sT l n i) = (0, n) ∧ eK l n i (sT l n i) = 3
theorem gO_lt {l : List Int} {n : Int} {i j : Nat} (h : gO l n i) (h2 : ¬ gO l n (j + 1)) : i ≤ j := by
  refine Classical.byContradiction (fun q => h2 (fun k hk => h k (by omega)))
theorem fAIL_not {l : List Int} {n p : Int} {i : Nat} (h : ((eN l n i (sT l n i)).1 ≠ 0 ∧ p = (eN l n i (sT l n i)).2) ∨ ((eN l n i (sT l n i)).1 = 0 ∧ eK l n i (sT l n i) = 3 ∧ (eN l n i (sT l n i)).2 ≠ n ∧ p = (eN l n i (sT l n i)).2) ∨ ((eN l n i (sT l n i)).1 = 0 ∧ eK l n i (sT l n i) ≠ 3 ∧ (sT l n (i + 1)).1 ≠ 0 ∧ p = (sT l n (i + 1)).2)) : ¬ gO l n (i + 1) := fun q => by
  have z := q i (by omega)
  rcases h with h | h | h
  · exact h.1 z.1
  · exact z.2.1 h.2.1
  · exact h.2.2.1 z.2.2
theorem fAIL_eq {l : List Int} {n p p' : Int} (h : fAIL l n p) (h' : fAIL l n p') : p = p' := by
  obtain ⟨i, h1, h2, h3⟩ := h
  obtain ⟨j, h4, h5, h6⟩ := h'
  have e1 := gO_lt h2 (fAIL_not h6)
  have e2 := gO_lt h5 (fAIL_not h3)
  have e : i = j := by omega
  subst e
  rcases h3 with h | h | h <;> rcases h6 with q | q | q
  · rw [h.2, q.2]
  · exact absurd q.1 h.1
  · exact absurd q.1 h.1
  · exact absurd h.1 q.1
  · rw [h.2.2.2, q.2.2.2]
  · exact absurd h.2.1 q.2.1
  · exact absurd h.1 q.1
  · exact absurd q.2.1 h.2.1
  · rw [h.2.2.2, q.2.2.2]
theorem sUCC_not {l : List Int} {n : Int} {i : Nat} (h : eK l n i (sT l n i) = 3) : ¬ gO l n (i + 1) := fun q => (q i (by omega)).2.1 h
theorem sUCC_fAIL {l : List Int} {n p : Int} {e : Nat} (h : sUCC l n e) (h' : fAIL l n p) : False := by
  obtain ⟨i, h0, h1, h2, h3, h3b⟩ := h
  obtain ⟨j, h4, h5, h6⟩ := h'
  have e1 := gO_lt h2 (fAIL_not h6)
  have e2 := gO_lt h5 (sUCC_not h3b)
  have e : i = j := by omega
  subst e
  rw [h3] at h6
  rcases h6 with q | q | q
  · exact q.1 rfl
  · exact q.2.2.1 rfl
  · exact q.2.1 h3b
theorem sUCC_eq {l : List Int} {n : Int} {e e' : Nat} (h : sUCC l n e) (h' : sUCC l n e') : e = e' := by
  obtain ⟨i, h0, h1, h2, h3, h3b⟩ := h
  obtain ⟨j, h4, h5, h6, h7, h7b⟩ := h'
  have e1 := gO_lt h2 (sUCC_not h7b)
  have e2 := gO_lt h6 (sUCC_not h3b)
  omega
theorem hS_bd {l : List Int} {n : Int} {s : Int × Int} : 0 ≤ (hS l n s).2 ∧ (hS l n s).2 < 8 := by
  unfold hS
  split
  · (try dsimp only)
    omega
  · exact ⟨(show (0 : Int) ≤ 0 by decide), (show (0 : Int) < 8 by decide)⟩
theorem fD_c {l : List Int} {n : Int} {s : Int × Int} : (fD l n s).2 = 0 ∨ (fD l n s).2 = 1 ∨ (fD l n s).2 = 2 := by
  unfold fD
  split
  · exact .inr (.inr rfl)
  · split
    · exact .inl rfl
    · exact .inr (.inl rfl)
theorem tF_c {l : List Int} {n : Int} {s : Int × Int} : -1 ≤ tF l n s ∧ tF l n s ≤ 2 := by
  unfold tF
  split
  · unfold t2
    split
    · have := fD_c (l := l) (n := n) (s := wD l n IFF s)
      omega
    · (try dsimp only)
      omega
  · omega
theorem tG_c {l : List Int} {n : Int} {s : Int × Int} (h : (tS l n s).1 = 0) (h2 : tF l n s ≠ -1) : tG l n s = 61 ∨ tG l n s = 60 ∨ tG l n s = 62 := by
  unfold tF at h2
  unfold tS at h
  by_cases q : s.1 = 0 ∧ nx l n s.2 = 32
  · rw [if_pos q] at h
    refine Classical.byContradiction (fun z => ?_)
    have e : t3 l n s = (1, (t2 l n s).1.2) := by
      unfold t3
      rw [if_neg (fun w => z w.2)]
    rw [e, dG_f] at h
    exact absurd (show (1 : Int) = 0 from h) (by decide)
  · rw [if_neg q] at h2
    exact absurd rfl h2

theorem l_rhouse0 {A : Nat → List Int} {F : Nat → Int} (hL : LENS A) (h5 : 0 ≤ F 5 ∧ F 5 ≤ 120) (h6 : 0 ≤ F 6 ∧ F 6 ≤ F 5) {x : Int} {i : Nat} (ex : x = (i : Int)) (hi : i < 6) : R 46 (0, L0 46 [vR 17, vR 20, vI x], [], LAY A F, 0, 0) (fun r G => ∃ (c : Int) (q3 : List Int) (a v : Int), r = some (vI c) ∧ G = LAY (u A 24 q3) (u (u F 6 a) 7 v) ∧ q3.length = 6 ∧ (c = 0 ∨ c = 1) ∧ 0 ≤ a ∧ a ≤ F 5 ∧ (∀ q : Nat, q ≠ i → rd q3 q = rd (A 24) q) ∧ ∃ h, hS (A 18) (F 5) (0, F 6) = ((1 - c, a), h) ∧ (c = 1 → rd q3 i = h)) := by
  have d0 : (A 21).length = 6 := hL 21 (by decide)
  have d1 : (A 22).length = 6 := hL 22 (by decide)
  have d2 : (A 23).length = 6 := hL 23 (by decide)
  have d3 : (A 24).length = 6 := hL 24 (by decide)
  have d4 : (A 25).length = 6 := hL 25 (by decide)
  have d5 : (A 26).length = 6 := hL 26 (by decide)
  have d6 : (A 27).length = 6 := hL 27 (by decide)
  have d7 : (A 28).length = 6 := hL 28 (by decide)
  refine R_s (P := True) (f' := (0, [some (vR 17), some (vR 20), some (vI x), none], [], LAY (u A 24 (A 24)) (u (u F 6 (F 6)) 7 (F 7)), 0, 0)) hc46 0 rfl trivial ?_
  refine R_s (P := True) (f' := (1, [some (vR 17), some (vR 20), some (vI x), none], [vR 17], LAY (u A 24 (A 24)) (u (u F 6 (F 6)) 7 (F 7)), 0, 0)) hc46 1 rfl trivial ?_
  refine R_cv hc46 rfl rfl (l_next (A := (u A 24 (A 24))) (F := (u (u F 6 (F 6)) 7 (F 7))) (LENS_u hL (by show (A 24).length = (A 24).length; omega)) h5 ⟨by (show 0 ≤ F 6); omega, by (show F 6 ≤ F 5); omega⟩) (fun r G9 hp9 => ?_)
  obtain ⟨e1, rfl⟩ := hp9
  have e2 : r = some (vI (nx (A 18) (F 5) (F 6))) := e1
  clear e1
  subst e2
  refine R_s (f' := (4, [some (vR 17), some (vR 20), some (vI x), none], [vI (nx (A 18) (F 5) (F 6))], LAY (u A 24 (A 24)) (u (u F 6 (F 6)) 7 (F 7)), 0, 0)) hc46 0 rfl trivial ?_
  refine R_s (P := True) (f' := (8, [some (vR 17), some (vR 20), some (vI x), some (vI (nx (A 18) (F 5) (F 6)))], [vI 97, vI (nx (A 18) (F 5) (F 6))], LAY (u A 24 (A 24)) (u (u F 6 (F 6)) 7 (F 7)), 0, 0)) hc46 3 rfl trivial ?_
  refine R_ic (t := 17) hc46 rfl rfl (fun (c1 : nx (A 18) (F 5) (F 6) < 97) => ?_) (fun (c1 : ¬ (nx (A 18) (F 5) (F 6) < 97)) => ?_)
  · refine R_s (P := True) (f' := (18, [some (vR 17), some (vR 20), some (vI x), some (vI (nx (A 18) (F 5) (F 6)))], [vI 0], LAY (u A 24 (A 24)) (u (u F 6 (F 6)) 7 (F 7)), 0, 0)) hc46 1 rfl trivial ?_
    refine R_retz hc46 rfl rfl (Or.inl rfl) ⟨0, A 24, F 6, F 7, rfl, rfl, (by (try simp only [wr_len]); omega), by decide, by omega, by omega, fun _ _ => rfl, 0, ?_, fun z => absurd z (by decide)⟩
    unfold hS
    (try dsimp only)
    rw [if_neg (fun z => by omega)]
    rfl
  · refine R_s (P := True) (f' := (14, [some (vR 17), some (vR 20), some (vI x), some (vI (nx (A 18) (F 5) (F 6)))], [vI 105, vI (nx (A 18) (F 5) (F 6))], LAY (u A 24 (A 24)) (u (u F 6 (F 6)) 7 (F 7)), 0, 0)) hc46 2 rfl trivial ?_
    refine R_ic (t := 19) hc46 rfl rfl (fun (c2 : nx (A 18) (F 5) (F 6) < 105) => ?_) (fun (c2 : ¬ (nx (A 18) (F 5) (F 6) < 105)) => ?_)
    · refine R_s (P := inI ((nx (A 18) (F 5) (F 6)) - 97) ∧ (0 ≤ x ∧ x < ((A 24).length : Int)) ∧ inI ((F 6) + 1) ∧ True) (f' := (40, [some (vR 17), some (vR 20), some (vI x), some (vI (nx (A 18) (F 5) (F 6)))], [vI 1], LAY (u A 24 (wr (A 24) x ((nx (A 18) (F 5) (F 6)) - 97))) (u (u F 7 (F 7)) 6 ((F 6) + 1)), 0, 0)) hc46 14 rfl ⟨⟨by omega, by omega⟩, ⟨by omega, by omega⟩, ⟨by omega, by omega⟩, trivial⟩ ?_
      refine R_retz hc46 rfl rfl (Or.inr rfl) ⟨1, wr (A 24) x ((nx (A 18) (F 5) (F 6)) - 97), (F 6) + 1, F 7, rfl, rfl, (by (try simp only [wr_len]); omega), by decide, by omega, by have := nx_in (l := A 18) (n := F 5) (a := F 6) (by omega); omega, fun q hq => by rw [rd_wr_n (by omega) (by omega) (by omega)], nx (A 18) (F 5) (F 6) - 97, ?_, fun _ => by rw [← ex]; exact rd_wr_s (by omega) (by omega)⟩
      unfold hS
      (try dsimp only)
      rw [if_pos ⟨rfl, by omega, by omega⟩]
      rfl
    · refine R_s (P := True) (f' := (18, [some (vR 17), some (vR 20), some (vI x), some (vI (nx (A 18) (F 5) (F 6)))], [vI 0], LAY (u A 24 (A 24)) (u (u F 6 (F 6)) 7 (F 7)), 0, 0)) hc46 1 rfl trivial ?_
      refine R_retz hc46 rfl rfl (Or.inl rfl) ⟨0, A 24, F 6, F 7, rfl, rfl, (by (try simp only [wr_len]); omega), by decide, by omega, by omega, fun _ _ => rfl, 0, ?_, fun z => absurd z (by decide)⟩
      unfold hS
      (try dsimp only)
      rw [if_neg (fun z => by omega)]
      rfl

theorem l_rtest0 {A : Nat → List Int} {F : Nat → Int} (hL : LENS A) (h5 : 0 ≤ F 5 ∧ F 5 ≤ 120) (h6 : 0 ≤ F 6 ∧ F 6 ≤ F 5) {x : Int} {i : Nat} (ex : x = (i : Int)) (hi : i < 6) (hf0 : rd (A 26) i = 0) : R 44 (0, L0 44 [vR 17, vR 20, vI x], [], LAY A F, 0, 0) (fun r G => ∃ (c : Int) (q5 q6 q7 : List Int) (a v : Int), r = some (vI c) ∧ G = LAY (u (u (u A 26 q5) 27 q6) 28 q7) (u (u F 6 a) 7 v) ∧ q5.length = 6 ∧ q6.length = 6 ∧ q7.length = 6 ∧ (c = 0 ∨ c = 1) ∧ 0 ≤ a ∧ a ≤ F 5 ∧ (∀ q : Nat, q ≠ i → rd q5 q = rd (A 26) q) ∧ (∀ q : Nat, q ≠ i → rd q6 q = rd (A 27) q) ∧ (∀ q : Nat, q ≠ i → rd q7 q = rd (A 28) q) ∧ tS (A 18) (F 5) (0, F 6) = (1 - c, a) ∧ (c = 1 → rd q5 i = tF (A 18) (F 5) (0, F 6) + 1 ∧ (tF (A 18) (F 5) (0, F 6) = -1 ∨ (rd q6 i = tG (A 18) (F 5) (0, F 6) ∧ rd q7 i = tH (A 18) (F 5) (0, F 6))))) := by
  have d0 : (A 21).length = 6 := hL 21 (by decide)
  have d1 : (A 22).length = 6 := hL 22 (by decide)
  have d2 : (A 23).length = 6 := hL 23 (by decide)
  have d3 : (A 24).length = 6 := hL 24 (by decide)
  have d4 : (A 25).length = 6 := hL 25 (by decide)
  have d5 : (A 26).length = 6 := hL 26 (by decide)
  have d6 : (A 27).length = 6 := hL 27 (by decide)
  have d7 : (A 28).length = 6 := hL 28 (by decide)
  refine R_s (P := True) (f' := (0, [some (vR 17), some (vR 20), some (vI x), none], [], LAY (u (u (u A 26 (A 26)) 27 (A 27)) 28 (A 28)) (u (u F 6 (F 6)) 7 (F 7)), 0, 0)) hc44 0 rfl trivial ?_
  refine R_s (P := True) (f' := (1, [some (vR 17), some (vR 20), some (vI x), none], [vR 17], LAY (u (u (u A 26 (A 26)) 27 (A 27)) 28 (A 28)) (u (u F 6 (F 6)) 7 (F 7)), 0, 0)) hc44 1 rfl trivial ?_
  refine R_cv hc44 rfl rfl (l_next (A := (u (u (u A 26 (A 26)) 27 (A 27)) 28 (A 28))) (F := (u (u F 6 (F 6)) 7 (F 7))) (LENS_u (LENS_u (LENS_u hL (by show (A 26).length = (A 26).length; omega)) (by show (A 27).length = (A 27).length; omega)) (by show (A 28).length = (A 28).length; omega)) h5 ⟨by (show 0 ≤ F 6); omega, by (show F 6 ≤ F 5); omega⟩) (fun r G9 hp9 => ?_)
  obtain ⟨e1, rfl⟩ := hp9
  have e2 : r = some (vI (nx (A 18) (F 5) (F 6))) := e1
  clear e1
  subst e2
  refine R_s (f' := (4, [some (vR 17), some (vR 20), some (vI x), none], [vI (nx (A 18) (F 5) (F 6))], LAY (u (u (u A 26 (A 26)) 27 (A 27)) 28 (A 28)) (u (u F 6 (F 6)) 7 (F 7)), 0, 0)) hc44 0 rfl trivial ?_
  refine R_s (P := True) (f' := (6, [some (vR 17), some (vR 20), some (vI x), none], [vI 32, vI (nx (A 18) (F 5) (F 6))], LAY (u (u (u A 26 (A 26)) 27 (A 27)) 28 (A 28)) (u (u F 6 (F 6)) 7 (F 7)), 0, 0)) hc44 1 rfl trivial ?_
  refine R_ic (t := 11) hc44 rfl rfl (fun (c1 : nx (A 18) (F 5) (F 6) = 32) => ?_) (fun (c1 : ¬ (nx (A 18) (F 5) (F 6) = 32)) => ?_)
  · refine R_s (P := True) (f' := (14, [some (vR 17), some (vR 20), some (vI x), none], [vS 2, vR 17], LAY (u (u (u A 26 (A 26)) 27 (A 27)) 28 (A 28)) (u (u F 6 (F 6)) 7 (F 7)), 0, 0)) hc44 2 rfl trivial ?_
    refine R_cv hc44 rfl rfl (l_word2 (A := (u (u (u A 26 (A 26)) 27 (A 27)) 28 (A 28))) (F := (u (u F 6 (F 6)) 7 (F 7))) (LENS_u (LENS_u (LENS_u hL (by show (A 26).length = (A 26).length; omega)) (by show (A 27).length = (A 27).length; omega)) (by show (A 28).length = (A 28).length; omega)) h5 ⟨by (show 0 ≤ F 6); omega, by (show F 6 ≤ F 5); omega⟩) (fun r G9 hp9 => ?_)
    obtain ⟨b1, a1, rfl, rfl, hb1, hw1, p1, q1⟩ := hp9
    have p1 : 0 ≤ a1 := p1
    have q1 : a1 ≤ F 5 := q1
    refine R_s (f' := (17, [some (vR 17), some (vR 20), some (vI x), none], [vI b1], LAY (u (u (u A 26 (A 26)) 27 (A 27)) 28 (A 28)) (u (u F 7 (F 7)) 6 a1), 0, 0)) hc44 0 rfl trivial ?_
    refine R_if (t := 29) hc44 rfl rfl (fun (c2 : b1 = 0) => ?_) (fun (c2 : ¬ (b1 = 0)) => ?_)
    · refine R_s (P := True) (f' := (30, [some (vR 17), some (vR 20), some (vI x), none], [vI 0], LAY (u (u (u A 26 (A 26)) 27 (A 27)) 28 (A 28)) (u (u F 7 (F 7)) 6 a1), 0, 0)) hc44 1 rfl trivial ?_
      refine R_retz hc44 rfl rfl (Or.inl rfl) ⟨0, A 26, A 27, A 28, a1, F 7, rfl, rfl, (by (try simp only [wr_len]); omega), (by (try simp only [wr_len]); omega), (by (try simp only [wr_len]); omega), by decide, by omega, by first | omega | (have := nx_in (l := A 18) (n := F 5) (a := F 6) (by omega); omega), fun _ _ => rfl, fun _ _ => rfl, fun _ _ => rfl, ?_, fun z => absurd z (by decide)⟩
      have ehw1 : b1 = 0 := by omega
      rw [ehw1] at hw1
      have hw1n : wD (A 18) (F 5) IFF (0, F 6) = (1, a1) := hw1
      have e2 : t2 (A 18) (F 5) (0, F 6) = ((1, a1), 0) := by
        unfold t2
        rw [hw1n]
        rw [if_neg (show ¬ (1 : Int) = 0 by decide)]
      have e3 : t3 (A 18) (F 5) (0, F 6) = (1, a1) := by
        unfold t3
        rw [e2]
        rw [if_neg (fun z => absurd (show (1 : Int) = 0 from z.1) (by decide))]
      have e4 : dG (A 18) (F 5) 4 (t3 (A 18) (F 5) (0, F 6)) = ((1, a1), 0) := by rw [e3, dG_f]
      have eS : tS (A 18) (F 5) (0, F 6) = (1, a1) := by
        unfold tS
        rw [if_pos ⟨rfl, by (try dsimp only); omega⟩, e4]
      exact eS
    · refine R_s (P := True) (f' := (23, [some (vR 17), some (vR 20), some (vI x), none], [vI x, vR 20, vR 17], LAY (u (u (u A 26 (A 26)) 27 (A 27)) 28 (A 28)) (u (u F 7 (F 7)) 6 a1), 0, 0)) hc44 3 rfl trivial ?_
      refine R_cv hc44 rfl rfl ?_ (fun r G h => h)
      refine R_s (P := True) (f' := (1, [some (vR 17), some (vR 20), some (vI x), none], [vR 17], LAY (u (u (u A 26 (A 26)) 27 (A 27)) 28 (A 28)) (u (u F 7 (F 7)) 6 a1), 0, 0)) hc45 1 rfl trivial ?_
      refine R_cv hc45 rfl rfl (l_next (A := (u (u (u A 26 (A 26)) 27 (A 27)) 28 (A 28))) (F := (u (u F 7 (F 7)) 6 a1)) (LENS_u (LENS_u (LENS_u hL (by show (A 26).length = (A 26).length; omega)) (by show (A 27).length = (A 27).length; omega)) (by show (A 28).length = (A 28).length; omega)) h5 ⟨by (show 0 ≤ a1); omega, by (show a1 ≤ F 5); omega⟩) (fun r G9 hp9 => ?_)
      obtain ⟨e1, rfl⟩ := hp9
      have e2 : r = some (vI (nx (A 18) (F 5) (a1))) := e1
      clear e1
      subst e2
      refine R_s (f' := (4, [some (vR 17), some (vR 20), some (vI x), none], [vI (nx (A 18) (F 5) (a1))], LAY (u (u (u A 26 (A 26)) 27 (A 27)) 28 (A 28)) (u (u F 7 (F 7)) 6 a1), 0, 0)) hc45 0 rfl trivial ?_
      refine R_s (P := True) (f' := (6, [some (vR 17), some (vR 20), some (vI x), none], [vI 97, vI (nx (A 18) (F 5) (a1))], LAY (u (u (u A 26 (A 26)) 27 (A 27)) 28 (A 28)) (u (u F 7 (F 7)) 6 a1), 0, 0)) hc45 1 rfl trivial ?_
      refine R_ic (t := 23) hc45 rfl rfl (fun (c3 : ¬ nx (A 18) (F 5) (a1) = 97) => ?_) (fun (c3 : ¬ (¬ nx (A 18) (F 5) (a1) = 97)) => ?_)
      · refine R_s (P := True) (f' := (26, [some (vR 17), some (vR 20), some (vI x), none], [vS 4, vR 17], LAY (u (u (u A 26 (A 26)) 27 (A 27)) 28 (A 28)) (u (u F 7 (F 7)) 6 a1), 0, 0)) hc45 2 rfl trivial ?_
        refine R_cv hc45 rfl rfl (l_word4 (A := (u (u (u A 26 (A 26)) 27 (A 27)) 28 (A 28))) (F := (u (u F 7 (F 7)) 6 a1)) (LENS_u (LENS_u (LENS_u hL (by show (A 26).length = (A 26).length; omega)) (by show (A 27).length = (A 27).length; omega)) (by show (A 28).length = (A 28).length; omega)) h5 ⟨by (show 0 ≤ a1); omega, by (show a1 ≤ F 5); omega⟩) (fun r G9 hp9 => ?_)
        obtain ⟨b2, a2, rfl, rfl, hb2, hw2, p2, q2⟩ := hp9
        have p2 : 0 ≤ a2 := p2
        have q2 : a2 ≤ F 5 := q2
        refine R_s (f' := (29, [some (vR 17), some (vR 20), some (vI x), none], [vI b2], LAY (u (u (u A 26 (A 26)) 27 (A 27)) 28 (A 28)) (u (u F 7 (F 7)) 6 a2), 0, 0)) hc45 0 rfl trivial ?_
        refine R_if (t := 34) hc45 rfl rfl (fun (c4 : ¬ b2 = 0) => ?_) (fun (c4 : ¬ (¬ b2 = 0)) => ?_)
        · refine R_s (P := True) (f' := (35, [some (vR 17), some (vR 20), some (vI x), none], [vR 17], LAY (u (u (u A 26 (A 26)) 27 (A 27)) 28 (A 28)) (u (u F 7 (F 7)) 6 a2), 0, 0)) hc45 1 rfl trivial ?_
          refine R_cv hc45 rfl rfl (l_next (A := (u (u (u A 26 (A 26)) 27 (A 27)) 28 (A 28))) (F := (u (u F 7 (F 7)) 6 a2)) (LENS_u (LENS_u (LENS_u hL (by show (A 26).length = (A 26).length; omega)) (by show (A 27).length = (A 27).length; omega)) (by show (A 28).length = (A 28).length; omega)) h5 ⟨by (show 0 ≤ a2); omega, by (show a2 ≤ F 5); omega⟩) (fun r G9 hp9 => ?_)
          obtain ⟨e1, rfl⟩ := hp9
          have e2 : r = some (vI (nx (A 18) (F 5) (a2))) := e1
          clear e1
          subst e2
          refine R_s (f' := (38, [some (vR 17), some (vR 20), some (vI x), none], [vI (nx (A 18) (F 5) (a2))], LAY (u (u (u A 26 (A 26)) 27 (A 27)) 28 (A 28)) (u (u F 7 (F 7)) 6 a2), 0, 0)) hc45 0 rfl trivial ?_
          refine R_s (P := True) (f' := (40, [some (vR 17), some (vR 20), some (vI x), none], [vI 101, vI (nx (A 18) (F 5) (a2))], LAY (u (u (u A 26 (A 26)) 27 (A 27)) 28 (A 28)) (u (u F 7 (F 7)) 6 a2), 0, 0)) hc45 1 rfl trivial ?_
          refine R_ic (t := 47) hc45 rfl rfl (fun (c5 : ¬ nx (A 18) (F 5) (a2) = 101) => ?_) (fun (c5 : ¬ (¬ nx (A 18) (F 5) (a2) = 101)) => ?_)
          · refine R_s (P := True) (f' := (55, [some (vR 17), some (vR 20), some (vI x), some (vI 0)], [vI 0, vI x, vR 26], LAY (u (u (u A 26 (A 26)) 27 (A 27)) 28 (A 28)) (u (u F 7 (F 7)) 6 a2), 0, 0)) hc45 6 rfl trivial ?_
            refine R_if (t := 62) hc45 rfl rfl (fun (_ : 0 = 0) => ?_) (fun (z : ¬ (0 = 0)) => absurd (by decide) z)
            refine R_s (P := (0 ≤ x ∧ x < ((A 26).length : Int)) ∧ True) (f' := (66, [some (vR 17), some (vR 20), some (vI x), some (vI 0)], [vI 0, vR 17], LAY (u (u (u A 27 (A 27)) 28 (A 28)) 26 (wr (A 26) x 2)) (u (u F 7 (F 7)) 6 a2), 0, 0)) hc45 4 rfl ⟨⟨by omega, by omega⟩, trivial⟩ ?_
            refine R_if (t := 74) hc45 rfl rfl (fun (_ : 0 = 0) => ?_) (fun (z : ¬ (0 = 0)) => absurd (by decide) z)
            refine R_s (P := True) (f' := (76, [some (vR 17), some (vR 20), some (vI x), some (vI 0)], [vS 6, vR 17], LAY (u (u (u A 27 (A 27)) 28 (A 28)) 26 (wr (A 26) x 2)) (u (u F 7 (F 7)) 6 a2), 0, 0)) hc45 1 rfl trivial ?_
            refine R_cv hc45 rfl rfl (l_word6 (A := (u (u (u A 27 (A 27)) 28 (A 28)) 26 (wr (A 26) x 2))) (F := (u (u F 7 (F 7)) 6 a2)) (LENS_u (LENS_u (LENS_u hL (by show (A 27).length = (A 27).length; omega)) (by show (A 28).length = (A 28).length; omega)) (by show (wr (A 26) x 2).length = (A 26).length; simp only [wr_len])) h5 ⟨by (show 0 ≤ a2); omega, by (show a2 ≤ F 5); omega⟩) (fun r G9 hp9 => ?_)
            obtain ⟨b3, a3, rfl, rfl, hb3, hw3, p3, q3⟩ := hp9
            have p3 : 0 ≤ a3 := p3
            have q3 : a3 ≤ F 5 := q3
            refine R_s (f' := (79, [some (vR 17), some (vR 20), some (vI x), some (vI 0)], [vI b3], LAY (u (u (u A 27 (A 27)) 28 (A 28)) 26 (wr (A 26) x 2)) (u (u F 7 (F 7)) 6 a3), 0, 0)) hc45 0 rfl trivial ?_
            refine R_retz hc45 rfl rfl (by omega) ?_
            refine R_s (f' := (26, [some (vR 17), some (vR 20), some (vI x), none], [vI b3], LAY (u (u (u A 27 (A 27)) 28 (A 28)) 26 (wr (A 26) x 2)) (u (u F 7 (F 7)) 6 a3), 0, 0)) hc44 0 rfl trivial ?_
            refine R_if (t := 31) hc44 rfl rfl (fun (c8 : ¬ b3 = 0) => ?_) (fun (c8 : ¬ (¬ b3 = 0)) => ?_)
            · refine R_s (P := True) (f' := (32, [some (vR 17), some (vR 20), some (vI x), none], [vR 17], LAY (u (u (u A 27 (A 27)) 28 (A 28)) 26 (wr (A 26) x 2)) (u (u F 7 (F 7)) 6 a3), 0, 0)) hc44 1 rfl trivial ?_
              refine R_cv hc44 rfl rfl (l_next (A := (u (u (u A 27 (A 27)) 28 (A 28)) 26 (wr (A 26) x 2))) (F := (u (u F 7 (F 7)) 6 a3)) (LENS_u (LENS_u (LENS_u hL (by show (A 27).length = (A 27).length; omega)) (by show (A 28).length = (A 28).length; omega)) (by show (wr (A 26) x 2).length = (A 26).length; simp only [wr_len])) h5 ⟨by (show 0 ≤ a3); omega, by (show a3 ≤ F 5); omega⟩) (fun r G9 hp9 => ?_)
              obtain ⟨e1, rfl⟩ := hp9
              have e2 : r = some (vI (nx (A 18) (F 5) (a3))) := e1
              clear e1
              subst e2
              refine R_s (f' := (35, [some (vR 17), some (vR 20), some (vI x), none], [vI (nx (A 18) (F 5) (a3))], LAY (u (u (u A 27 (A 27)) 28 (A 28)) 26 (wr (A 26) x 2)) (u (u F 7 (F 7)) 6 a3), 0, 0)) hc44 0 rfl trivial ?_
              refine R_s (P := True) (f' := (39, [some (vR 17), some (vR 20), some (vI x), some (vI (nx (A 18) (F 5) (a3)))], [vI 61, vI (nx (A 18) (F 5) (a3))], LAY (u (u (u A 27 (A 27)) 28 (A 28)) 26 (wr (A 26) x 2)) (u (u F 7 (F 7)) 6 a3), 0, 0)) hc44 3 rfl trivial ?_
              refine R_ic (t := 56) hc44 rfl rfl (fun (c9 : nx (A 18) (F 5) (a3) = 61) => ?_) (fun (c9 : ¬ (nx (A 18) (F 5) (a3) = 61)) => ?_)
              · refine R_s (P := (0 ≤ x ∧ x < ((A 27).length : Int)) ∧ inI (a3 + 1) ∧ True) (f' := (75, [some (vR 17), some (vR 20), some (vI x), some (vI (nx (A 18) (F 5) (a3)))], [vI 4, vR 17], LAY (u (u (u A 28 (A 28)) 26 (wr (A 26) x 2)) 27 (wr (A 27) x (nx (A 18) (F 5) (a3)))) (u (u F 7 (F 7)) 6 (a3 + 1)), 0, 0)) hc44 13 rfl ⟨⟨by omega, by omega⟩, ⟨by omega, by omega⟩, trivial⟩ ?_
                refine R_cv hc44 rfl rfl (l_numb (A := (u (u (u A 28 (A 28)) 26 (wr (A 26) x 2)) 27 (wr (A 27) x (nx (A 18) (F 5) (a3))))) (F := (u (u F 7 (F 7)) 6 (a3 + 1))) (LENS_u (LENS_u (LENS_u hL (by show (A 28).length = (A 28).length; omega)) (by show (wr (A 26) x 2).length = (A 26).length; simp only [wr_len])) (by show (wr (A 27) x (nx (A 18) (F 5) (a3))).length = (A 27).length; simp only [wr_len])) h5 ⟨by (show 0 ≤ a3 + 1); omega, by (have := nx_in (l := A 18) (n := F 5) (a := a3) (by omega)); (show a3 + 1 ≤ F 5); omega⟩ (kk := 4) (by decide) rfl) (fun r G9 hp9 => ?_)
                obtain ⟨b4, a4, v4, rfl, rfl, hb4, hw4, p4, q4, w4⟩ := hp9
                have p4 : 0 ≤ a4 := p4
                have q4 : a4 ≤ F 5 := q4
                refine R_s (f' := (78, [some (vR 17), some (vR 20), some (vI x), some (vI (nx (A 18) (F 5) (a3)))], [vI b4], LAY (u (u (u A 28 (A 28)) 26 (wr (A 26) x 2)) 27 (wr (A 27) x (nx (A 18) (F 5) (a3)))) (u (u F 6 a4) 7 v4), 0, 0)) hc44 0 rfl trivial ?_
                refine R_if (t := 83) hc44 rfl rfl (fun (c10 : ¬ b4 = 0) => ?_) (fun (c10 : ¬ (¬ b4 = 0)) => ?_)
                · refine R_s (P := (0 ≤ x ∧ x < ((A 28).length : Int)) ∧ True) (f' := (94, [some (vR 17), some (vR 20), some (vI x), some (vI (nx (A 18) (F 5) (a3)))], [vI 1], LAY (u (u (u A 26 (wr (A 26) x 2)) 27 (wr (A 27) x (nx (A 18) (F 5) (a3)))) 28 (wr (A 28) x v4)) (u (u F 6 a4) 7 v4), 0, 0)) hc44 7 rfl ⟨⟨by omega, by omega⟩, trivial⟩ ?_
                  refine R_retz hc44 rfl rfl (Or.inr rfl) ⟨1, wr (A 26) x 2, wr (A 27) x (nx (A 18) (F 5) (a3)), wr (A 28) x v4, a4, v4, rfl, rfl, (by (try simp only [wr_len]); omega), (by (try simp only [wr_len]); omega), (by (try simp only [wr_len]); omega), by decide, by omega, by first | omega | (have := nx_in (l := A 18) (n := F 5) (a := F 6) (by omega); omega), fun q hq => by rw [rd_wr_n (by omega) (by omega) (by omega)], fun q hq => by rw [rd_wr_n (by omega) (by omega) (by omega)], fun q hq => by rw [rd_wr_n (by omega) (by omega) (by omega)], ?_⟩
                  have ehw1 : b1 = 1 := by omega
                  rw [ehw1] at hw1
                  have hw1n : wD (A 18) (F 5) IFF (0, F 6) = (0, a1) := hw1
                  have ehw2 : b2 = 1 := by omega
                  rw [ehw2] at hw2
                  have hw2n : wD (A 18) (F 5) YY (0, a1) = (0, a2) := hw2
                  have ehw3 : b3 = 1 := by omega
                  rw [ehw3] at hw3
                  have hw3n : wD (A 18) (F 5) IELD (0, a2) = (0, a3) := hw3
                  have ehw4 : b4 = 1 := by omega
                  rw [ehw4] at hw4
                  have hw4n : dG (A 18) (F 5) 4 (0, a3 + 1) = ((0, a4), v4) := hw4
                  have hYe : eE (A 18) (F 5) 121 (0, a1) = (0, a2) := hw2n
                  have e2 : t2 (A 18) (F 5) (0, F 6) = ((0, a3), 1) := by
                    unfold t2
                    rw [hw1n]
                    rw [if_pos rfl]
                    unfold fD
                    (try dsimp only)
                    rw [if_neg (by omega), hYe]
                    rw [if_neg (fun z => by have := z.2; (try dsimp only at this); omega), hw3n]
                  have e3 : t3 (A 18) (F 5) (0, F 6) = (0, a3 + 1) := by
                    unfold t3
                    rw [e2]
                    rw [if_pos ⟨rfl, by (try dsimp only); omega⟩]
                  have e4 : dG (A 18) (F 5) 4 (t3 (A 18) (F 5) (0, F 6)) = ((0, a4), v4) := by
                    rw [e3]
                    exact hw4n
                  have eS : tS (A 18) (F 5) (0, F 6) = (0, a4) := by
                    unfold tS
                    rw [if_pos ⟨rfl, by (try dsimp only); omega⟩, e4]
                  have eF : tF (A 18) (F 5) (0, F 6) = 1 := by
                    unfold tF
                    rw [if_pos ⟨rfl, by (try dsimp only); omega⟩, e2]
                  have eG : tG (A 18) (F 5) (0, F 6) = nx (A 18) (F 5) (a3) := by
                    unfold tG
                    rw [e2]
                  have eH : tH (A 18) (F 5) (0, F 6) = v4 := by
                    unfold tH
                    rw [e4]
                  refine ⟨eS, fun _ => ⟨?_, .inr ⟨?_, ?_⟩⟩⟩
                  · rw [eF, ← ex, rd_wr_s (by omega) (by (try simp only [wr_len]); omega)]
                    decide
                  · rw [eG, ← ex, rd_wr_s (by omega) (by (try simp only [wr_len]); omega)]
                  · rw [eH, ← ex, rd_wr_s (by omega) (by (try simp only [wr_len]); omega)]
                · refine R_s (P := True) (f' := (82, [some (vR 17), some (vR 20), some (vI x), some (vI (nx (A 18) (F 5) (a3)))], [vI 0], LAY (u (u (u A 28 (A 28)) 26 (wr (A 26) x 2)) 27 (wr (A 27) x (nx (A 18) (F 5) (a3)))) (u (u F 6 a4) 7 v4), 0, 0)) hc44 1 rfl trivial ?_
                  refine R_retz hc44 rfl rfl (Or.inl rfl) ⟨0, wr (A 26) x 2, wr (A 27) x (nx (A 18) (F 5) (a3)), A 28, a4, v4, rfl, rfl, (by (try simp only [wr_len]); omega), (by (try simp only [wr_len]); omega), (by (try simp only [wr_len]); omega), by decide, by omega, by first | omega | (have := nx_in (l := A 18) (n := F 5) (a := F 6) (by omega); omega), fun q hq => by rw [rd_wr_n (by omega) (by omega) (by omega)], fun q hq => by rw [rd_wr_n (by omega) (by omega) (by omega)], fun _ _ => rfl, ?_, fun z => absurd z (by decide)⟩
                  have ehw1 : b1 = 1 := by omega
                  rw [ehw1] at hw1
                  have hw1n : wD (A 18) (F 5) IFF (0, F 6) = (0, a1) := hw1
                  have ehw2 : b2 = 1 := by omega
                  rw [ehw2] at hw2
                  have hw2n : wD (A 18) (F 5) YY (0, a1) = (0, a2) := hw2
                  have ehw3 : b3 = 1 := by omega
                  rw [ehw3] at hw3
                  have hw3n : wD (A 18) (F 5) IELD (0, a2) = (0, a3) := hw3
                  have ehw4 : b4 = 0 := by omega
                  rw [ehw4] at hw4
                  have hw4n : dG (A 18) (F 5) 4 (0, a3 + 1) = ((1, a4), v4) := hw4
                  have hYe : eE (A 18) (F 5) 121 (0, a1) = (0, a2) := hw2n
                  have e2 : t2 (A 18) (F 5) (0, F 6) = ((0, a3), 1) := by
                    unfold t2
                    rw [hw1n]
                    rw [if_pos rfl]
                    unfold fD
                    (try dsimp only)
                    rw [if_neg (by omega), hYe]
                    rw [if_neg (fun z => by have := z.2; (try dsimp only at this); omega), hw3n]
                  have e3 : t3 (A 18) (F 5) (0, F 6) = (0, a3 + 1) := by
                    unfold t3
                    rw [e2]
                    rw [if_pos ⟨rfl, by (try dsimp only); omega⟩]
                  have e4 : dG (A 18) (F 5) 4 (t3 (A 18) (F 5) (0, F 6)) = ((1, a4), v4) := by
                    rw [e3]
                    exact hw4n
                  have eS : tS (A 18) (F 5) (0, F 6) = (1, a4) := by
                    unfold tS
                    rw [if_pos ⟨rfl, by (try dsimp only); omega⟩, e4]
                  exact eS
              · refine R_s (P := True) (f' := (45, [some (vR 17), some (vR 20), some (vI x), some (vI (nx (A 18) (F 5) (a3)))], [vI 60, vI (nx (A 18) (F 5) (a3))], LAY (u (u (u A 27 (A 27)) 28 (A 28)) 26 (wr (A 26) x 2)) (u (u F 7 (F 7)) 6 a3), 0, 0)) hc44 2 rfl trivial ?_
                refine R_ic (t := 56) hc44 rfl rfl (fun (c11 : nx (A 18) (F 5) (a3) = 60) => ?_) (fun (c11 : ¬ (nx (A 18) (F 5) (a3) = 60)) => ?_)
                · refine R_s (P := (0 ≤ x ∧ x < ((A 27).length : Int)) ∧ inI (a3 + 1) ∧ True) (f' := (75, [some (vR 17), some (vR 20), some (vI x), some (vI (nx (A 18) (F 5) (a3)))], [vI 4, vR 17], LAY (u (u (u A 28 (A 28)) 26 (wr (A 26) x 2)) 27 (wr (A 27) x (nx (A 18) (F 5) (a3)))) (u (u F 7 (F 7)) 6 (a3 + 1)), 0, 0)) hc44 13 rfl ⟨⟨by omega, by omega⟩, ⟨by omega, by omega⟩, trivial⟩ ?_
                  refine R_cv hc44 rfl rfl (l_numb (A := (u (u (u A 28 (A 28)) 26 (wr (A 26) x 2)) 27 (wr (A 27) x (nx (A 18) (F 5) (a3))))) (F := (u (u F 7 (F 7)) 6 (a3 + 1))) (LENS_u (LENS_u (LENS_u hL (by show (A 28).length = (A 28).length; omega)) (by show (wr (A 26) x 2).length = (A 26).length; simp only [wr_len])) (by show (wr (A 27) x (nx (A 18) (F 5) (a3))).length = (A 27).length; simp only [wr_len])) h5 ⟨by (show 0 ≤ a3 + 1); omega, by (have := nx_in (l := A 18) (n := F 5) (a := a3) (by omega)); (show a3 + 1 ≤ F 5); omega⟩ (kk := 4) (by decide) rfl) (fun r G9 hp9 => ?_)
                  obtain ⟨b5, a5, v5, rfl, rfl, hb5, hw5, p5, q5, w5⟩ := hp9
                  have p5 : 0 ≤ a5 := p5
                  have q5 : a5 ≤ F 5 := q5
                  refine R_s (f' := (78, [some (vR 17), some (vR 20), some (vI x), some (vI (nx (A 18) (F 5) (a3)))], [vI b5], LAY (u (u (u A 28 (A 28)) 26 (wr (A 26) x 2)) 27 (wr (A 27) x (nx (A 18) (F 5) (a3)))) (u (u F 6 a5) 7 v5), 0, 0)) hc44 0 rfl trivial ?_
                  refine R_if (t := 83) hc44 rfl rfl (fun (c12 : ¬ b5 = 0) => ?_) (fun (c12 : ¬ (¬ b5 = 0)) => ?_)
                  · refine R_s (P := (0 ≤ x ∧ x < ((A 28).length : Int)) ∧ True) (f' := (94, [some (vR 17), some (vR 20), some (vI x), some (vI (nx (A 18) (F 5) (a3)))], [vI 1], LAY (u (u (u A 26 (wr (A 26) x 2)) 27 (wr (A 27) x (nx (A 18) (F 5) (a3)))) 28 (wr (A 28) x v5)) (u (u F 6 a5) 7 v5), 0, 0)) hc44 7 rfl ⟨⟨by omega, by omega⟩, trivial⟩ ?_
                    refine R_retz hc44 rfl rfl (Or.inr rfl) ⟨1, wr (A 26) x 2, wr (A 27) x (nx (A 18) (F 5) (a3)), wr (A 28) x v5, a5, v5, rfl, rfl, (by (try simp only [wr_len]); omega), (by (try simp only [wr_len]); omega), (by (try simp only [wr_len]); omega), by decide, by omega, by first | omega | (have := nx_in (l := A 18) (n := F 5) (a := F 6) (by omega); omega), fun q hq => by rw [rd_wr_n (by omega) (by omega) (by omega)], fun q hq => by rw [rd_wr_n (by omega) (by omega) (by omega)], fun q hq => by rw [rd_wr_n (by omega) (by omega) (by omega)], ?_⟩
                    have ehw1 : b1 = 1 := by omega
                    rw [ehw1] at hw1
                    have hw1n : wD (A 18) (F 5) IFF (0, F 6) = (0, a1) := hw1
                    have ehw2 : b2 = 1 := by omega
                    rw [ehw2] at hw2
                    have hw2n : wD (A 18) (F 5) YY (0, a1) = (0, a2) := hw2
                    have ehw3 : b3 = 1 := by omega
                    rw [ehw3] at hw3
                    have hw3n : wD (A 18) (F 5) IELD (0, a2) = (0, a3) := hw3
                    have ehw5 : b5 = 1 := by omega
                    rw [ehw5] at hw5
                    have hw5n : dG (A 18) (F 5) 4 (0, a3 + 1) = ((0, a5), v5) := hw5
                    have hYe : eE (A 18) (F 5) 121 (0, a1) = (0, a2) := hw2n
                    have e2 : t2 (A 18) (F 5) (0, F 6) = ((0, a3), 1) := by
                      unfold t2
                      rw [hw1n]
                      rw [if_pos rfl]
                      unfold fD
                      (try dsimp only)
                      rw [if_neg (by omega), hYe]
                      rw [if_neg (fun z => by have := z.2; (try dsimp only at this); omega), hw3n]
                    have e3 : t3 (A 18) (F 5) (0, F 6) = (0, a3 + 1) := by
                      unfold t3
                      rw [e2]
                      rw [if_pos ⟨rfl, by (try dsimp only); omega⟩]
                    have e4 : dG (A 18) (F 5) 4 (t3 (A 18) (F 5) (0, F 6)) = ((0, a5), v5) := by
                      rw [e3]
                      exact hw5n
                    have eS : tS (A 18) (F 5) (0, F 6) = (0, a5) := by
                      unfold tS
                      rw [if_pos ⟨rfl, by (try dsimp only); omega⟩, e4]
                    have eF : tF (A 18) (F 5) (0, F 6) = 1 := by
                      unfold tF
                      rw [if_pos ⟨rfl, by (try dsimp only); omega⟩, e2]
                    have eG : tG (A 18) (F 5) (0, F 6) = nx (A 18) (F 5) (a3) := by
                      unfold tG
                      rw [e2]
                    have eH : tH (A 18) (F 5) (0, F 6) = v5 := by
                      unfold tH
                      rw [e4]
                    refine ⟨eS, fun _ => ⟨?_, .inr ⟨?_, ?_⟩⟩⟩
                    · rw [eF, ← ex, rd_wr_s (by omega) (by (try simp only [wr_len]); omega)]
                      decide
                    · rw [eG, ← ex, rd_wr_s (by omega) (by (try simp only [wr_len]); omega)]
                    · rw [eH, ← ex, rd_wr_s (by omega) (by (try simp only [wr_len]); omega)]
                  · refine R_s (P := True) (f' := (82, [some (vR 17), some (vR 20), some (vI x), some (vI (nx (A 18) (F 5) (a3)))], [vI 0], LAY (u (u (u A 28 (A 28)) 26 (wr (A 26) x 2)) 27 (wr (A 27) x (nx (A 18) (F 5) (a3)))) (u (u F 6 a5) 7 v5), 0, 0)) hc44 1 rfl trivial ?_
                    refine R_retz hc44 rfl rfl (Or.inl rfl) ⟨0, wr (A 26) x 2, wr (A 27) x (nx (A 18) (F 5) (a3)), A 28, a5, v5, rfl, rfl, (by (try simp only [wr_len]); omega), (by (try simp only [wr_len]); omega), (by (try simp only [wr_len]); omega), by decide, by omega, by first | omega | (have := nx_in (l := A 18) (n := F 5) (a := F 6) (by omega); omega), fun q hq => by rw [rd_wr_n (by omega) (by omega) (by omega)], fun q hq => by rw [rd_wr_n (by omega) (by omega) (by omega)], fun _ _ => rfl, ?_, fun z => absurd z (by decide)⟩
                    have ehw1 : b1 = 1 := by omega
                    rw [ehw1] at hw1
                    have hw1n : wD (A 18) (F 5) IFF (0, F 6) = (0, a1) := hw1
                    have ehw2 : b2 = 1 := by omega
                    rw [ehw2] at hw2
                    have hw2n : wD (A 18) (F 5) YY (0, a1) = (0, a2) := hw2
                    have ehw3 : b3 = 1 := by omega
                    rw [ehw3] at hw3
                    have hw3n : wD (A 18) (F 5) IELD (0, a2) = (0, a3) := hw3
                    have ehw5 : b5 = 0 := by omega
                    rw [ehw5] at hw5
                    have hw5n : dG (A 18) (F 5) 4 (0, a3 + 1) = ((1, a5), v5) := hw5
                    have hYe : eE (A 18) (F 5) 121 (0, a1) = (0, a2) := hw2n
                    have e2 : t2 (A 18) (F 5) (0, F 6) = ((0, a3), 1) := by
                      unfold t2
                      rw [hw1n]
                      rw [if_pos rfl]
                      unfold fD
                      (try dsimp only)
                      rw [if_neg (by omega), hYe]
                      rw [if_neg (fun z => by have := z.2; (try dsimp only at this); omega), hw3n]
                    have e3 : t3 (A 18) (F 5) (0, F 6) = (0, a3 + 1) := by
                      unfold t3
                      rw [e2]
                      rw [if_pos ⟨rfl, by (try dsimp only); omega⟩]
                    have e4 : dG (A 18) (F 5) 4 (t3 (A 18) (F 5) (0, F 6)) = ((1, a5), v5) := by
                      rw [e3]
                      exact hw5n
                    have eS : tS (A 18) (F 5) (0, F 6) = (1, a5) := by
                      unfold tS
                      rw [if_pos ⟨rfl, by (try dsimp only); omega⟩, e4]
                    exact eS
                · refine R_s (P := True) (f' := (51, [some (vR 17), some (vR 20), some (vI x), some (vI (nx (A 18) (F 5) (a3)))], [vI 62, vI (nx (A 18) (F 5) (a3))], LAY (u (u (u A 27 (A 27)) 28 (A 28)) 26 (wr (A 26) x 2)) (u (u F 7 (F 7)) 6 a3), 0, 0)) hc44 2 rfl trivial ?_
                  refine R_ic (t := 56) hc44 rfl rfl (fun (c13 : nx (A 18) (F 5) (a3) = 62) => ?_) (fun (c13 : ¬ (nx (A 18) (F 5) (a3) = 62)) => ?_)
                  · refine R_s (P := (0 ≤ x ∧ x < ((A 27).length : Int)) ∧ inI (a3 + 1) ∧ True) (f' := (75, [some (vR 17), some (vR 20), some (vI x), some (vI (nx (A 18) (F 5) (a3)))], [vI 4, vR 17], LAY (u (u (u A 28 (A 28)) 26 (wr (A 26) x 2)) 27 (wr (A 27) x (nx (A 18) (F 5) (a3)))) (u (u F 7 (F 7)) 6 (a3 + 1)), 0, 0)) hc44 13 rfl ⟨⟨by omega, by omega⟩, ⟨by omega, by omega⟩, trivial⟩ ?_
                    refine R_cv hc44 rfl rfl (l_numb (A := (u (u (u A 28 (A 28)) 26 (wr (A 26) x 2)) 27 (wr (A 27) x (nx (A 18) (F 5) (a3))))) (F := (u (u F 7 (F 7)) 6 (a3 + 1))) (LENS_u (LENS_u (LENS_u hL (by show (A 28).length = (A 28).length; omega)) (by show (wr (A 26) x 2).length = (A 26).length; simp only [wr_len])) (by show (wr (A 27) x (nx (A 18) (F 5) (a3))).length = (A 27).length; simp only [wr_len])) h5 ⟨by (show 0 ≤ a3 + 1); omega, by (have := nx_in (l := A 18) (n := F 5) (a := a3) (by omega)); (show a3 + 1 ≤ F 5); omega⟩ (kk := 4) (by decide) rfl) (fun r G9 hp9 => ?_)
                    obtain ⟨b6, a6, v6, rfl, rfl, hb6, hw6, p6, q6, w6⟩ := hp9
                    have p6 : 0 ≤ a6 := p6
                    have q6 : a6 ≤ F 5 := q6
                    refine R_s (f' := (78, [some (vR 17), some (vR 20), some (vI x), some (vI (nx (A 18) (F 5) (a3)))], [vI b6], LAY (u (u (u A 28 (A 28)) 26 (wr (A 26) x 2)) 27 (wr (A 27) x (nx (A 18) (F 5) (a3)))) (u (u F 6 a6) 7 v6), 0, 0)) hc44 0 rfl trivial ?_
                    refine R_if (t := 83) hc44 rfl rfl (fun (c14 : ¬ b6 = 0) => ?_) (fun (c14 : ¬ (¬ b6 = 0)) => ?_)
                    · refine R_s (P := (0 ≤ x ∧ x < ((A 28).length : Int)) ∧ True) (f' := (94, [some (vR 17), some (vR 20), some (vI x), some (vI (nx (A 18) (F 5) (a3)))], [vI 1], LAY (u (u (u A 26 (wr (A 26) x 2)) 27 (wr (A 27) x (nx (A 18) (F 5) (a3)))) 28 (wr (A 28) x v6)) (u (u F 6 a6) 7 v6), 0, 0)) hc44 7 rfl ⟨⟨by omega, by omega⟩, trivial⟩ ?_
                      refine R_retz hc44 rfl rfl (Or.inr rfl) ⟨1, wr (A 26) x 2, wr (A 27) x (nx (A 18) (F 5) (a3)), wr (A 28) x v6, a6, v6, rfl, rfl, (by (try simp only [wr_len]); omega), (by (try simp only [wr_len]); omega), (by (try simp only [wr_len]); omega), by decide, by omega, by first | omega | (have := nx_in (l := A 18) (n := F 5) (a := F 6) (by omega); omega), fun q hq => by rw [rd_wr_n (by omega) (by omega) (by omega)], fun q hq => by rw [rd_wr_n (by omega) (by omega) (by omega)], fun q hq => by rw [rd_wr_n (by omega) (by omega) (by omega)], ?_⟩
                      have ehw1 : b1 = 1 := by omega
                      rw [ehw1] at hw1
                      have hw1n : wD (A 18) (F 5) IFF (0, F 6) = (0, a1) := hw1
                      have ehw2 : b2 = 1 := by omega
                      rw [ehw2] at hw2
                      have hw2n : wD (A 18) (F 5) YY (0, a1) = (0, a2) := hw2
                      have ehw3 : b3 = 1 := by omega
                      rw [ehw3] at hw3
                      have hw3n : wD (A 18) (F 5) IELD (0, a2) = (0, a3) := hw3
                      have ehw6 : b6 = 1 := by omega
                      rw [ehw6] at hw6
                      have hw6n : dG (A 18) (F 5) 4 (0, a3 + 1) = ((0, a6), v6) := hw6
                      have hYe : eE (A 18) (F 5) 121 (0, a1) = (0, a2) := hw2n
                      have e2 : t2 (A 18) (F 5) (0, F 6) = ((0, a3), 1) := by
                        unfold t2
                        rw [hw1n]
                        rw [if_pos rfl]
                        unfold fD
                        (try dsimp only)
                        rw [if_neg (by omega), hYe]
                        rw [if_neg (fun z => by have := z.2; (try dsimp only at this); omega), hw3n]
                      have e3 : t3 (A 18) (F 5) (0, F 6) = (0, a3 + 1) := by
                        unfold t3
                        rw [e2]
                        rw [if_pos ⟨rfl, by (try dsimp only); omega⟩]
                      have e4 : dG (A 18) (F 5) 4 (t3 (A 18) (F 5) (0, F 6)) = ((0, a6), v6) := by
                        rw [e3]
                        exact hw6n
                      have eS : tS (A 18) (F 5) (0, F 6) = (0, a6) := by
                        unfold tS
                        rw [if_pos ⟨rfl, by (try dsimp only); omega⟩, e4]
                      have eF : tF (A 18) (F 5) (0, F 6) = 1 := by
                        unfold tF
                        rw [if_pos ⟨rfl, by (try dsimp only); omega⟩, e2]
                      have eG : tG (A 18) (F 5) (0, F 6) = nx (A 18) (F 5) (a3) := by
                        unfold tG
                        rw [e2]
                      have eH : tH (A 18) (F 5) (0, F 6) = v6 := by
                        unfold tH
                        rw [e4]
                      refine ⟨eS, fun _ => ⟨?_, .inr ⟨?_, ?_⟩⟩⟩
                      · rw [eF, ← ex, rd_wr_s (by omega) (by (try simp only [wr_len]); omega)]
                        decide
                      · rw [eG, ← ex, rd_wr_s (by omega) (by (try simp only [wr_len]); omega)]
                      · rw [eH, ← ex, rd_wr_s (by omega) (by (try simp only [wr_len]); omega)]
                    · refine R_s (P := True) (f' := (82, [some (vR 17), some (vR 20), some (vI x), some (vI (nx (A 18) (F 5) (a3)))], [vI 0], LAY (u (u (u A 28 (A 28)) 26 (wr (A 26) x 2)) 27 (wr (A 27) x (nx (A 18) (F 5) (a3)))) (u (u F 6 a6) 7 v6), 0, 0)) hc44 1 rfl trivial ?_
                      refine R_retz hc44 rfl rfl (Or.inl rfl) ⟨0, wr (A 26) x 2, wr (A 27) x (nx (A 18) (F 5) (a3)), A 28, a6, v6, rfl, rfl, (by (try simp only [wr_len]); omega), (by (try simp only [wr_len]); omega), (by (try simp only [wr_len]); omega), by decide, by omega, by first | omega | (have := nx_in (l := A 18) (n := F 5) (a := F 6) (by omega); omega), fun q hq => by rw [rd_wr_n (by omega) (by omega) (by omega)], fun q hq => by rw [rd_wr_n (by omega) (by omega) (by omega)], fun _ _ => rfl, ?_, fun z => absurd z (by decide)⟩
                      have ehw1 : b1 = 1 := by omega
                      rw [ehw1] at hw1
                      have hw1n : wD (A 18) (F 5) IFF (0, F 6) = (0, a1) := hw1
                      have ehw2 : b2 = 1 := by omega
                      rw [ehw2] at hw2
                      have hw2n : wD (A 18) (F 5) YY (0, a1) = (0, a2) := hw2
                      have ehw3 : b3 = 1 := by omega
                      rw [ehw3] at hw3
                      have hw3n : wD (A 18) (F 5) IELD (0, a2) = (0, a3) := hw3
                      have ehw6 : b6 = 0 := by omega
                      rw [ehw6] at hw6
                      have hw6n : dG (A 18) (F 5) 4 (0, a3 + 1) = ((1, a6), v6) := hw6
                      have hYe : eE (A 18) (F 5) 121 (0, a1) = (0, a2) := hw2n
                      have e2 : t2 (A 18) (F 5) (0, F 6) = ((0, a3), 1) := by
                        unfold t2
                        rw [hw1n]
                        rw [if_pos rfl]
                        unfold fD
                        (try dsimp only)
                        rw [if_neg (by omega), hYe]
                        rw [if_neg (fun z => by have := z.2; (try dsimp only at this); omega), hw3n]
                      have e3 : t3 (A 18) (F 5) (0, F 6) = (0, a3 + 1) := by
                        unfold t3
                        rw [e2]
                        rw [if_pos ⟨rfl, by (try dsimp only); omega⟩]
                      have e4 : dG (A 18) (F 5) 4 (t3 (A 18) (F 5) (0, F 6)) = ((1, a6), v6) := by
                        rw [e3]
                        exact hw6n
                      have eS : tS (A 18) (F 5) (0, F 6) = (1, a6) := by
                        unfold tS
                        rw [if_pos ⟨rfl, by (try dsimp only); omega⟩, e4]
                      exact eS
                  · refine R_s (P := True) (f' := (55, [some (vR 17), some (vR 20), some (vI x), some (vI (nx (A 18) (F 5) (a3)))], [vI 0], LAY (u (u (u A 27 (A 27)) 28 (A 28)) 26 (wr (A 26) x 2)) (u (u F 7 (F 7)) 6 a3), 0, 0)) hc44 1 rfl trivial ?_
                    refine R_retz hc44 rfl rfl (Or.inl rfl) ⟨0, wr (A 26) x 2, A 27, A 28, a3, F 7, rfl, rfl, (by (try simp only [wr_len]); omega), (by (try simp only [wr_len]); omega), (by (try simp only [wr_len]); omega), by decide, by omega, by first | omega | (have := nx_in (l := A 18) (n := F 5) (a := F 6) (by omega); omega), fun q hq => by rw [rd_wr_n (by omega) (by omega) (by omega)], fun _ _ => rfl, fun _ _ => rfl, ?_, fun z => absurd z (by decide)⟩
                    have ehw1 : b1 = 1 := by omega
                    rw [ehw1] at hw1
                    have hw1n : wD (A 18) (F 5) IFF (0, F 6) = (0, a1) := hw1
                    have ehw2 : b2 = 1 := by omega
                    rw [ehw2] at hw2
                    have hw2n : wD (A 18) (F 5) YY (0, a1) = (0, a2) := hw2
                    have ehw3 : b3 = 1 := by omega
                    rw [ehw3] at hw3
                    have hw3n : wD (A 18) (F 5) IELD (0, a2) = (0, a3) := hw3
                    have hYe : eE (A 18) (F 5) 121 (0, a1) = (0, a2) := hw2n
                    have e2 : t2 (A 18) (F 5) (0, F 6) = ((0, a3), 1) := by
                      unfold t2
                      rw [hw1n]
                      rw [if_pos rfl]
                      unfold fD
                      (try dsimp only)
                      rw [if_neg (by omega), hYe]
                      rw [if_neg (fun z => by have := z.2; (try dsimp only at this); omega), hw3n]
                    have e3 : t3 (A 18) (F 5) (0, F 6) = (1, a3) := by
                      unfold t3
                      rw [e2]
                      rw [if_neg (fun z => by have := z.2; (try dsimp only at this); omega)]
                    have e4 : dG (A 18) (F 5) 4 (t3 (A 18) (F 5) (0, F 6)) = ((1, a3), 0) := by rw [e3, dG_f]
                    have eS : tS (A 18) (F 5) (0, F 6) = (1, a3) := by
                      unfold tS
                      rw [if_pos ⟨rfl, by (try dsimp only); omega⟩, e4]
                    exact eS
            · refine R_s (P := True) (f' := (30, [some (vR 17), some (vR 20), some (vI x), none], [vI 0], LAY (u (u (u A 27 (A 27)) 28 (A 28)) 26 (wr (A 26) x 2)) (u (u F 7 (F 7)) 6 a3), 0, 0)) hc44 1 rfl trivial ?_
              refine R_retz hc44 rfl rfl (Or.inl rfl) ⟨0, wr (A 26) x 2, A 27, A 28, a3, F 7, rfl, rfl, (by (try simp only [wr_len]); omega), (by (try simp only [wr_len]); omega), (by (try simp only [wr_len]); omega), by decide, by omega, by first | omega | (have := nx_in (l := A 18) (n := F 5) (a := F 6) (by omega); omega), fun q hq => by rw [rd_wr_n (by omega) (by omega) (by omega)], fun _ _ => rfl, fun _ _ => rfl, ?_, fun z => absurd z (by decide)⟩
              have ehw1 : b1 = 1 := by omega
              rw [ehw1] at hw1
              have hw1n : wD (A 18) (F 5) IFF (0, F 6) = (0, a1) := hw1
              have ehw2 : b2 = 1 := by omega
              rw [ehw2] at hw2
              have hw2n : wD (A 18) (F 5) YY (0, a1) = (0, a2) := hw2
              have ehw3 : b3 = 0 := by omega
              rw [ehw3] at hw3
              have hw3n : wD (A 18) (F 5) IELD (0, a2) = (1, a3) := hw3
              have hYe : eE (A 18) (F 5) 121 (0, a1) = (0, a2) := hw2n
              have e2 : t2 (A 18) (F 5) (0, F 6) = ((1, a3), 1) := by
                unfold t2
                rw [hw1n]
                rw [if_pos rfl]
                unfold fD
                (try dsimp only)
                rw [if_neg (by omega), hYe]
                rw [if_neg (fun z => by have := z.2; (try dsimp only at this); omega), hw3n]
              have e3 : t3 (A 18) (F 5) (0, F 6) = (1, a3) := by
                unfold t3
                rw [e2]
                rw [if_neg (fun z => absurd (show (1 : Int) = 0 from z.1) (by decide))]
              have e4 : dG (A 18) (F 5) 4 (t3 (A 18) (F 5) (0, F 6)) = ((1, a3), 0) := by rw [e3, dG_f]
              have eS : tS (A 18) (F 5) (0, F 6) = (1, a3) := by
                unfold tS
                rw [if_pos ⟨rfl, by (try dsimp only); omega⟩, e4]
              exact eS
          · refine R_s (P := True) (f' := (55, [some (vR 17), some (vR 20), some (vI x), some (vI 1)], [vI 1, vI x, vR 26], LAY (u (u (u A 26 (A 26)) 27 (A 27)) 28 (A 28)) (u (u F 7 (F 7)) 6 a2), 0, 0)) hc45 7 rfl trivial ?_
            refine R_if (t := 62) hc45 rfl rfl (fun (z : 1 = 0) => absurd z (by decide)) (fun (_ : ¬ (1 = 0)) => ?_)
            refine R_s (P := (0 ≤ x ∧ x < ((A 26).length : Int)) ∧ True) (f' := (66, [some (vR 17), some (vR 20), some (vI x), some (vI 1)], [vI 1, vR 17], LAY (u (u (u A 27 (A 27)) 28 (A 28)) 26 (wr (A 26) x 1)) (u (u F 7 (F 7)) 6 a2), 0, 0)) hc45 5 rfl ⟨⟨by omega, by omega⟩, trivial⟩ ?_
            refine R_if (t := 74) hc45 rfl rfl (fun (z : 1 = 0) => absurd z (by decide)) (fun (_ : ¬ (1 = 0)) => ?_)
            refine R_s (P := True) (f' := (76, [some (vR 17), some (vR 20), some (vI x), some (vI 1)], [vS 5, vR 17], LAY (u (u (u A 27 (A 27)) 28 (A 28)) 26 (wr (A 26) x 1)) (u (u F 7 (F 7)) 6 a2), 0, 0)) hc45 2 rfl trivial ?_
            refine R_cv hc45 rfl rfl (l_word5 (A := (u (u (u A 27 (A 27)) 28 (A 28)) 26 (wr (A 26) x 1))) (F := (u (u F 7 (F 7)) 6 a2)) (LENS_u (LENS_u (LENS_u hL (by show (A 27).length = (A 27).length; omega)) (by show (A 28).length = (A 28).length; omega)) (by show (wr (A 26) x 1).length = (A 26).length; simp only [wr_len])) h5 ⟨by (show 0 ≤ a2); omega, by (show a2 ≤ F 5); omega⟩) (fun r G9 hp9 => ?_)
            obtain ⟨b7, a7, rfl, rfl, hb7, hw7, p7, q7⟩ := hp9
            have p7 : 0 ≤ a7 := p7
            have q7 : a7 ≤ F 5 := q7
            refine R_s (f' := (79, [some (vR 17), some (vR 20), some (vI x), some (vI 1)], [vI b7], LAY (u (u (u A 27 (A 27)) 28 (A 28)) 26 (wr (A 26) x 1)) (u (u F 7 (F 7)) 6 a7), 0, 0)) hc45 0 rfl trivial ?_
            refine R_retz hc45 rfl rfl (by omega) ?_
            refine R_s (f' := (26, [some (vR 17), some (vR 20), some (vI x), none], [vI b7], LAY (u (u (u A 27 (A 27)) 28 (A 28)) 26 (wr (A 26) x 1)) (u (u F 7 (F 7)) 6 a7), 0, 0)) hc44 0 rfl trivial ?_
            refine R_if (t := 31) hc44 rfl rfl (fun (c10 : ¬ b7 = 0) => ?_) (fun (c10 : ¬ (¬ b7 = 0)) => ?_)
            · refine R_s (P := True) (f' := (32, [some (vR 17), some (vR 20), some (vI x), none], [vR 17], LAY (u (u (u A 27 (A 27)) 28 (A 28)) 26 (wr (A 26) x 1)) (u (u F 7 (F 7)) 6 a7), 0, 0)) hc44 1 rfl trivial ?_
              refine R_cv hc44 rfl rfl (l_next (A := (u (u (u A 27 (A 27)) 28 (A 28)) 26 (wr (A 26) x 1))) (F := (u (u F 7 (F 7)) 6 a7)) (LENS_u (LENS_u (LENS_u hL (by show (A 27).length = (A 27).length; omega)) (by show (A 28).length = (A 28).length; omega)) (by show (wr (A 26) x 1).length = (A 26).length; simp only [wr_len])) h5 ⟨by (show 0 ≤ a7); omega, by (show a7 ≤ F 5); omega⟩) (fun r G9 hp9 => ?_)
              obtain ⟨e1, rfl⟩ := hp9
              have e2 : r = some (vI (nx (A 18) (F 5) (a7))) := e1
              clear e1
              subst e2
              refine R_s (f' := (35, [some (vR 17), some (vR 20), some (vI x), none], [vI (nx (A 18) (F 5) (a7))], LAY (u (u (u A 27 (A 27)) 28 (A 28)) 26 (wr (A 26) x 1)) (u (u F 7 (F 7)) 6 a7), 0, 0)) hc44 0 rfl trivial ?_
              refine R_s (P := True) (f' := (39, [some (vR 17), some (vR 20), some (vI x), some (vI (nx (A 18) (F 5) (a7)))], [vI 61, vI (nx (A 18) (F 5) (a7))], LAY (u (u (u A 27 (A 27)) 28 (A 28)) 26 (wr (A 26) x 1)) (u (u F 7 (F 7)) 6 a7), 0, 0)) hc44 3 rfl trivial ?_
              refine R_ic (t := 56) hc44 rfl rfl (fun (c11 : nx (A 18) (F 5) (a7) = 61) => ?_) (fun (c11 : ¬ (nx (A 18) (F 5) (a7) = 61)) => ?_)
              · refine R_s (P := (0 ≤ x ∧ x < ((A 27).length : Int)) ∧ inI (a7 + 1) ∧ True) (f' := (75, [some (vR 17), some (vR 20), some (vI x), some (vI (nx (A 18) (F 5) (a7)))], [vI 4, vR 17], LAY (u (u (u A 28 (A 28)) 26 (wr (A 26) x 1)) 27 (wr (A 27) x (nx (A 18) (F 5) (a7)))) (u (u F 7 (F 7)) 6 (a7 + 1)), 0, 0)) hc44 13 rfl ⟨⟨by omega, by omega⟩, ⟨by omega, by omega⟩, trivial⟩ ?_
                refine R_cv hc44 rfl rfl (l_numb (A := (u (u (u A 28 (A 28)) 26 (wr (A 26) x 1)) 27 (wr (A 27) x (nx (A 18) (F 5) (a7))))) (F := (u (u F 7 (F 7)) 6 (a7 + 1))) (LENS_u (LENS_u (LENS_u hL (by show (A 28).length = (A 28).length; omega)) (by show (wr (A 26) x 1).length = (A 26).length; simp only [wr_len])) (by show (wr (A 27) x (nx (A 18) (F 5) (a7))).length = (A 27).length; simp only [wr_len])) h5 ⟨by (show 0 ≤ a7 + 1); omega, by (have := nx_in (l := A 18) (n := F 5) (a := a7) (by omega)); (show a7 + 1 ≤ F 5); omega⟩ (kk := 4) (by decide) rfl) (fun r G9 hp9 => ?_)
                obtain ⟨b8, a8, v8, rfl, rfl, hb8, hw8, p8, q8, w8⟩ := hp9
                have p8 : 0 ≤ a8 := p8
                have q8 : a8 ≤ F 5 := q8
                refine R_s (f' := (78, [some (vR 17), some (vR 20), some (vI x), some (vI (nx (A 18) (F 5) (a7)))], [vI b8], LAY (u (u (u A 28 (A 28)) 26 (wr (A 26) x 1)) 27 (wr (A 27) x (nx (A 18) (F 5) (a7)))) (u (u F 6 a8) 7 v8), 0, 0)) hc44 0 rfl trivial ?_
                refine R_if (t := 83) hc44 rfl rfl (fun (c12 : ¬ b8 = 0) => ?_) (fun (c12 : ¬ (¬ b8 = 0)) => ?_)
                · refine R_s (P := (0 ≤ x ∧ x < ((A 28).length : Int)) ∧ True) (f' := (94, [some (vR 17), some (vR 20), some (vI x), some (vI (nx (A 18) (F 5) (a7)))], [vI 1], LAY (u (u (u A 26 (wr (A 26) x 1)) 27 (wr (A 27) x (nx (A 18) (F 5) (a7)))) 28 (wr (A 28) x v8)) (u (u F 6 a8) 7 v8), 0, 0)) hc44 7 rfl ⟨⟨by omega, by omega⟩, trivial⟩ ?_
                  refine R_retz hc44 rfl rfl (Or.inr rfl) ⟨1, wr (A 26) x 1, wr (A 27) x (nx (A 18) (F 5) (a7)), wr (A 28) x v8, a8, v8, rfl, rfl, (by (try simp only [wr_len]); omega), (by (try simp only [wr_len]); omega), (by (try simp only [wr_len]); omega), by decide, by omega, by first | omega | (have := nx_in (l := A 18) (n := F 5) (a := F 6) (by omega); omega), fun q hq => by rw [rd_wr_n (by omega) (by omega) (by omega)], fun q hq => by rw [rd_wr_n (by omega) (by omega) (by omega)], fun q hq => by rw [rd_wr_n (by omega) (by omega) (by omega)], ?_⟩
                  have ehw1 : b1 = 1 := by omega
                  rw [ehw1] at hw1
                  have hw1n : wD (A 18) (F 5) IFF (0, F 6) = (0, a1) := hw1
                  have ehw2 : b2 = 1 := by omega
                  rw [ehw2] at hw2
                  have hw2n : wD (A 18) (F 5) YY (0, a1) = (0, a2) := hw2
                  have ehw7 : b7 = 1 := by omega
                  rw [ehw7] at hw7
                  have hw7n : wD (A 18) (F 5) EAR (0, a2) = (0, a7) := hw7
                  have ehw8 : b8 = 1 := by omega
                  rw [ehw8] at hw8
                  have hw8n : dG (A 18) (F 5) 4 (0, a7 + 1) = ((0, a8), v8) := hw8
                  have hYe : eE (A 18) (F 5) 121 (0, a1) = (0, a2) := hw2n
                  have e2 : t2 (A 18) (F 5) (0, F 6) = ((0, a7), 0) := by
                    unfold t2
                    rw [hw1n]
                    rw [if_pos rfl]
                    unfold fD
                    (try dsimp only)
                    rw [if_neg (by omega), hYe]
                    rw [if_pos ⟨rfl, by (try dsimp only); omega⟩, hw7n]
                  have e3 : t3 (A 18) (F 5) (0, F 6) = (0, a7 + 1) := by
                    unfold t3
                    rw [e2]
                    rw [if_pos ⟨rfl, by (try dsimp only); omega⟩]
                  have e4 : dG (A 18) (F 5) 4 (t3 (A 18) (F 5) (0, F 6)) = ((0, a8), v8) := by
                    rw [e3]
                    exact hw8n
                  have eS : tS (A 18) (F 5) (0, F 6) = (0, a8) := by
                    unfold tS
                    rw [if_pos ⟨rfl, by (try dsimp only); omega⟩, e4]
                  have eF : tF (A 18) (F 5) (0, F 6) = 0 := by
                    unfold tF
                    rw [if_pos ⟨rfl, by (try dsimp only); omega⟩, e2]
                  have eG : tG (A 18) (F 5) (0, F 6) = nx (A 18) (F 5) (a7) := by
                    unfold tG
                    rw [e2]
                  have eH : tH (A 18) (F 5) (0, F 6) = v8 := by
                    unfold tH
                    rw [e4]
                  refine ⟨eS, fun _ => ⟨?_, .inr ⟨?_, ?_⟩⟩⟩
                  · rw [eF, ← ex, rd_wr_s (by omega) (by (try simp only [wr_len]); omega)]
                    decide
                  · rw [eG, ← ex, rd_wr_s (by omega) (by (try simp only [wr_len]); omega)]
                  · rw [eH, ← ex, rd_wr_s (by omega) (by (try simp only [wr_len]); omega)]
                · refine R_s (P := True) (f' := (82, [some (vR 17), some (vR 20), some (vI x), some (vI (nx (A 18) (F 5) (a7)))], [vI 0], LAY (u (u (u A 28 (A 28)) 26 (wr (A 26) x 1)) 27 (wr (A 27) x (nx (A 18) (F 5) (a7)))) (u (u F 6 a8) 7 v8), 0, 0)) hc44 1 rfl trivial ?_
                  refine R_retz hc44 rfl rfl (Or.inl rfl) ⟨0, wr (A 26) x 1, wr (A 27) x (nx (A 18) (F 5) (a7)), A 28, a8, v8, rfl, rfl, (by (try simp only [wr_len]); omega), (by (try simp only [wr_len]); omega), (by (try simp only [wr_len]); omega), by decide, by omega, by first | omega | (have := nx_in (l := A 18) (n := F 5) (a := F 6) (by omega); omega), fun q hq => by rw [rd_wr_n (by omega) (by omega) (by omega)], fun q hq => by rw [rd_wr_n (by omega) (by omega) (by omega)], fun _ _ => rfl, ?_, fun z => absurd z (by decide)⟩
                  have ehw1 : b1 = 1 := by omega
                  rw [ehw1] at hw1
                  have hw1n : wD (A 18) (F 5) IFF (0, F 6) = (0, a1) := hw1
                  have ehw2 : b2 = 1 := by omega
                  rw [ehw2] at hw2
                  have hw2n : wD (A 18) (F 5) YY (0, a1) = (0, a2) := hw2
                  have ehw7 : b7 = 1 := by omega
                  rw [ehw7] at hw7
                  have hw7n : wD (A 18) (F 5) EAR (0, a2) = (0, a7) := hw7
                  have ehw8 : b8 = 0 := by omega
                  rw [ehw8] at hw8
                  have hw8n : dG (A 18) (F 5) 4 (0, a7 + 1) = ((1, a8), v8) := hw8
                  have hYe : eE (A 18) (F 5) 121 (0, a1) = (0, a2) := hw2n
                  have e2 : t2 (A 18) (F 5) (0, F 6) = ((0, a7), 0) := by
                    unfold t2
                    rw [hw1n]
                    rw [if_pos rfl]
                    unfold fD
                    (try dsimp only)
                    rw [if_neg (by omega), hYe]
                    rw [if_pos ⟨rfl, by (try dsimp only); omega⟩, hw7n]
                  have e3 : t3 (A 18) (F 5) (0, F 6) = (0, a7 + 1) := by
                    unfold t3
                    rw [e2]
                    rw [if_pos ⟨rfl, by (try dsimp only); omega⟩]
                  have e4 : dG (A 18) (F 5) 4 (t3 (A 18) (F 5) (0, F 6)) = ((1, a8), v8) := by
                    rw [e3]
                    exact hw8n
                  have eS : tS (A 18) (F 5) (0, F 6) = (1, a8) := by
                    unfold tS
                    rw [if_pos ⟨rfl, by (try dsimp only); omega⟩, e4]
                  exact eS
              · refine R_s (P := True) (f' := (45, [some (vR 17), some (vR 20), some (vI x), some (vI (nx (A 18) (F 5) (a7)))], [vI 60, vI (nx (A 18) (F 5) (a7))], LAY (u (u (u A 27 (A 27)) 28 (A 28)) 26 (wr (A 26) x 1)) (u (u F 7 (F 7)) 6 a7), 0, 0)) hc44 2 rfl trivial ?_
                refine R_ic (t := 56) hc44 rfl rfl (fun (c13 : nx (A 18) (F 5) (a7) = 60) => ?_) (fun (c13 : ¬ (nx (A 18) (F 5) (a7) = 60)) => ?_)
                · refine R_s (P := (0 ≤ x ∧ x < ((A 27).length : Int)) ∧ inI (a7 + 1) ∧ True) (f' := (75, [some (vR 17), some (vR 20), some (vI x), some (vI (nx (A 18) (F 5) (a7)))], [vI 4, vR 17], LAY (u (u (u A 28 (A 28)) 26 (wr (A 26) x 1)) 27 (wr (A 27) x (nx (A 18) (F 5) (a7)))) (u (u F 7 (F 7)) 6 (a7 + 1)), 0, 0)) hc44 13 rfl ⟨⟨by omega, by omega⟩, ⟨by omega, by omega⟩, trivial⟩ ?_
                  refine R_cv hc44 rfl rfl (l_numb (A := (u (u (u A 28 (A 28)) 26 (wr (A 26) x 1)) 27 (wr (A 27) x (nx (A 18) (F 5) (a7))))) (F := (u (u F 7 (F 7)) 6 (a7 + 1))) (LENS_u (LENS_u (LENS_u hL (by show (A 28).length = (A 28).length; omega)) (by show (wr (A 26) x 1).length = (A 26).length; simp only [wr_len])) (by show (wr (A 27) x (nx (A 18) (F 5) (a7))).length = (A 27).length; simp only [wr_len])) h5 ⟨by (show 0 ≤ a7 + 1); omega, by (have := nx_in (l := A 18) (n := F 5) (a := a7) (by omega)); (show a7 + 1 ≤ F 5); omega⟩ (kk := 4) (by decide) rfl) (fun r G9 hp9 => ?_)
                  obtain ⟨b9, a9, v9, rfl, rfl, hb9, hw9, p9, q9, w9⟩ := hp9
                  have p9 : 0 ≤ a9 := p9
                  have q9 : a9 ≤ F 5 := q9
                  refine R_s (f' := (78, [some (vR 17), some (vR 20), some (vI x), some (vI (nx (A 18) (F 5) (a7)))], [vI b9], LAY (u (u (u A 28 (A 28)) 26 (wr (A 26) x 1)) 27 (wr (A 27) x (nx (A 18) (F 5) (a7)))) (u (u F 6 a9) 7 v9), 0, 0)) hc44 0 rfl trivial ?_
                  refine R_if (t := 83) hc44 rfl rfl (fun (c14 : ¬ b9 = 0) => ?_) (fun (c14 : ¬ (¬ b9 = 0)) => ?_)
                  · refine R_s (P := (0 ≤ x ∧ x < ((A 28).length : Int)) ∧ True) (f' := (94, [some (vR 17), some (vR 20), some (vI x), some (vI (nx (A 18) (F 5) (a7)))], [vI 1], LAY (u (u (u A 26 (wr (A 26) x 1)) 27 (wr (A 27) x (nx (A 18) (F 5) (a7)))) 28 (wr (A 28) x v9)) (u (u F 6 a9) 7 v9), 0, 0)) hc44 7 rfl ⟨⟨by omega, by omega⟩, trivial⟩ ?_
                    refine R_retz hc44 rfl rfl (Or.inr rfl) ⟨1, wr (A 26) x 1, wr (A 27) x (nx (A 18) (F 5) (a7)), wr (A 28) x v9, a9, v9, rfl, rfl, (by (try simp only [wr_len]); omega), (by (try simp only [wr_len]); omega), (by (try simp only [wr_len]); omega), by decide, by omega, by first | omega | (have := nx_in (l := A 18) (n := F 5) (a := F 6) (by omega); omega), fun q hq => by rw [rd_wr_n (by omega) (by omega) (by omega)], fun q hq => by rw [rd_wr_n (by omega) (by omega) (by omega)], fun q hq => by rw [rd_wr_n (by omega) (by omega) (by omega)], ?_⟩
                    have ehw1 : b1 = 1 := by omega
                    rw [ehw1] at hw1
                    have hw1n : wD (A 18) (F 5) IFF (0, F 6) = (0, a1) := hw1
                    have ehw2 : b2 = 1 := by omega
                    rw [ehw2] at hw2
                    have hw2n : wD (A 18) (F 5) YY (0, a1) = (0, a2) := hw2
                    have ehw7 : b7 = 1 := by omega
                    rw [ehw7] at hw7
                    have hw7n : wD (A 18) (F 5) EAR (0, a2) = (0, a7) := hw7
                    have ehw9 : b9 = 1 := by omega
                    rw [ehw9] at hw9
                    have hw9n : dG (A 18) (F 5) 4 (0, a7 + 1) = ((0, a9), v9) := hw9
                    have hYe : eE (A 18) (F 5) 121 (0, a1) = (0, a2) := hw2n
                    have e2 : t2 (A 18) (F 5) (0, F 6) = ((0, a7), 0) := by
                      unfold t2
                      rw [hw1n]
                      rw [if_pos rfl]
                      unfold fD
                      (try dsimp only)
                      rw [if_neg (by omega), hYe]
                      rw [if_pos ⟨rfl, by (try dsimp only); omega⟩, hw7n]
                    have e3 : t3 (A 18) (F 5) (0, F 6) = (0, a7 + 1) := by
                      unfold t3
                      rw [e2]
                      rw [if_pos ⟨rfl, by (try dsimp only); omega⟩]
                    have e4 : dG (A 18) (F 5) 4 (t3 (A 18) (F 5) (0, F 6)) = ((0, a9), v9) := by
                      rw [e3]
                      exact hw9n
                    have eS : tS (A 18) (F 5) (0, F 6) = (0, a9) := by
                      unfold tS
                      rw [if_pos ⟨rfl, by (try dsimp only); omega⟩, e4]
                    have eF : tF (A 18) (F 5) (0, F 6) = 0 := by
                      unfold tF
                      rw [if_pos ⟨rfl, by (try dsimp only); omega⟩, e2]
                    have eG : tG (A 18) (F 5) (0, F 6) = nx (A 18) (F 5) (a7) := by
                      unfold tG
                      rw [e2]
                    have eH : tH (A 18) (F 5) (0, F 6) = v9 := by
                      unfold tH
                      rw [e4]
                    refine ⟨eS, fun _ => ⟨?_, .inr ⟨?_, ?_⟩⟩⟩
                    · rw [eF, ← ex, rd_wr_s (by omega) (by (try simp only [wr_len]); omega)]
                      decide
                    · rw [eG, ← ex, rd_wr_s (by omega) (by (try simp only [wr_len]); omega)]
                    · rw [eH, ← ex, rd_wr_s (by omega) (by (try simp only [wr_len]); omega)]
                  · refine R_s (P := True) (f' := (82, [some (vR 17), some (vR 20), some (vI x), some (vI (nx (A 18) (F 5) (a7)))], [vI 0], LAY (u (u (u A 28 (A 28)) 26 (wr (A 26) x 1)) 27 (wr (A 27) x (nx (A 18) (F 5) (a7)))) (u (u F 6 a9) 7 v9), 0, 0)) hc44 1 rfl trivial ?_
                    refine R_retz hc44 rfl rfl (Or.inl rfl) ⟨0, wr (A 26) x 1, wr (A 27) x (nx (A 18) (F 5) (a7)), A 28, a9, v9, rfl, rfl, (by (try simp only [wr_len]); omega), (by (try simp only [wr_len]); omega), (by (try simp only [wr_len]); omega), by decide, by omega, by first | omega | (have := nx_in (l := A 18) (n := F 5) (a := F 6) (by omega); omega), fun q hq => by rw [rd_wr_n (by omega) (by omega) (by omega)], fun q hq => by rw [rd_wr_n (by omega) (by omega) (by omega)], fun _ _ => rfl, ?_, fun z => absurd z (by decide)⟩
                    have ehw1 : b1 = 1 := by omega
                    rw [ehw1] at hw1
                    have hw1n : wD (A 18) (F 5) IFF (0, F 6) = (0, a1) := hw1
                    have ehw2 : b2 = 1 := by omega
                    rw [ehw2] at hw2
                    have hw2n : wD (A 18) (F 5) YY (0, a1) = (0, a2) := hw2
                    have ehw7 : b7 = 1 := by omega
                    rw [ehw7] at hw7
                    have hw7n : wD (A 18) (F 5) EAR (0, a2) = (0, a7) := hw7
                    have ehw9 : b9 = 0 := by omega
                    rw [ehw9] at hw9
                    have hw9n : dG (A 18) (F 5) 4 (0, a7 + 1) = ((1, a9), v9) := hw9
                    have hYe : eE (A 18) (F 5) 121 (0, a1) = (0, a2) := hw2n
                    have e2 : t2 (A 18) (F 5) (0, F 6) = ((0, a7), 0) := by
                      unfold t2
                      rw [hw1n]
                      rw [if_pos rfl]
                      unfold fD
                      (try dsimp only)
                      rw [if_neg (by omega), hYe]
                      rw [if_pos ⟨rfl, by (try dsimp only); omega⟩, hw7n]
                    have e3 : t3 (A 18) (F 5) (0, F 6) = (0, a7 + 1) := by
                      unfold t3
                      rw [e2]
                      rw [if_pos ⟨rfl, by (try dsimp only); omega⟩]
                    have e4 : dG (A 18) (F 5) 4 (t3 (A 18) (F 5) (0, F 6)) = ((1, a9), v9) := by
                      rw [e3]
                      exact hw9n
                    have eS : tS (A 18) (F 5) (0, F 6) = (1, a9) := by
                      unfold tS
                      rw [if_pos ⟨rfl, by (try dsimp only); omega⟩, e4]
                    exact eS
                · refine R_s (P := True) (f' := (51, [some (vR 17), some (vR 20), some (vI x), some (vI (nx (A 18) (F 5) (a7)))], [vI 62, vI (nx (A 18) (F 5) (a7))], LAY (u (u (u A 27 (A 27)) 28 (A 28)) 26 (wr (A 26) x 1)) (u (u F 7 (F 7)) 6 a7), 0, 0)) hc44 2 rfl trivial ?_
                  refine R_ic (t := 56) hc44 rfl rfl (fun (c15 : nx (A 18) (F 5) (a7) = 62) => ?_) (fun (c15 : ¬ (nx (A 18) (F 5) (a7) = 62)) => ?_)
                  · refine R_s (P := (0 ≤ x ∧ x < ((A 27).length : Int)) ∧ inI (a7 + 1) ∧ True) (f' := (75, [some (vR 17), some (vR 20), some (vI x), some (vI (nx (A 18) (F 5) (a7)))], [vI 4, vR 17], LAY (u (u (u A 28 (A 28)) 26 (wr (A 26) x 1)) 27 (wr (A 27) x (nx (A 18) (F 5) (a7)))) (u (u F 7 (F 7)) 6 (a7 + 1)), 0, 0)) hc44 13 rfl ⟨⟨by omega, by omega⟩, ⟨by omega, by omega⟩, trivial⟩ ?_
                    refine R_cv hc44 rfl rfl (l_numb (A := (u (u (u A 28 (A 28)) 26 (wr (A 26) x 1)) 27 (wr (A 27) x (nx (A 18) (F 5) (a7))))) (F := (u (u F 7 (F 7)) 6 (a7 + 1))) (LENS_u (LENS_u (LENS_u hL (by show (A 28).length = (A 28).length; omega)) (by show (wr (A 26) x 1).length = (A 26).length; simp only [wr_len])) (by show (wr (A 27) x (nx (A 18) (F 5) (a7))).length = (A 27).length; simp only [wr_len])) h5 ⟨by (show 0 ≤ a7 + 1); omega, by (have := nx_in (l := A 18) (n := F 5) (a := a7) (by omega)); (show a7 + 1 ≤ F 5); omega⟩ (kk := 4) (by decide) rfl) (fun r G9 hp9 => ?_)
                    obtain ⟨b10, a10, v10, rfl, rfl, hb10, hw10, p10, q10, w10⟩ := hp9
                    have p10 : 0 ≤ a10 := p10
                    have q10 : a10 ≤ F 5 := q10
                    refine R_s (f' := (78, [some (vR 17), some (vR 20), some (vI x), some (vI (nx (A 18) (F 5) (a7)))], [vI b10], LAY (u (u (u A 28 (A 28)) 26 (wr (A 26) x 1)) 27 (wr (A 27) x (nx (A 18) (F 5) (a7)))) (u (u F 6 a10) 7 v10), 0, 0)) hc44 0 rfl trivial ?_
                    refine R_if (t := 83) hc44 rfl rfl (fun (c16 : ¬ b10 = 0) => ?_) (fun (c16 : ¬ (¬ b10 = 0)) => ?_)
                    · refine R_s (P := (0 ≤ x ∧ x < ((A 28).length : Int)) ∧ True) (f' := (94, [some (vR 17), some (vR 20), some (vI x), some (vI (nx (A 18) (F 5) (a7)))], [vI 1], LAY (u (u (u A 26 (wr (A 26) x 1)) 27 (wr (A 27) x (nx (A 18) (F 5) (a7)))) 28 (wr (A 28) x v10)) (u (u F 6 a10) 7 v10), 0, 0)) hc44 7 rfl ⟨⟨by omega, by omega⟩, trivial⟩ ?_
                      refine R_retz hc44 rfl rfl (Or.inr rfl) ⟨1, wr (A 26) x 1, wr (A 27) x (nx (A 18) (F 5) (a7)), wr (A 28) x v10, a10, v10, rfl, rfl, (by (try simp only [wr_len]); omega), (by (try simp only [wr_len]); omega), (by (try simp only [wr_len]); omega), by decide, by omega, by first | omega | (have := nx_in (l := A 18) (n := F 5) (a := F 6) (by omega); omega), fun q hq => by rw [rd_wr_n (by omega) (by omega) (by omega)], fun q hq => by rw [rd_wr_n (by omega) (by omega) (by omega)], fun q hq => by rw [rd_wr_n (by omega) (by omega) (by omega)], ?_⟩
                      have ehw1 : b1 = 1 := by omega
                      rw [ehw1] at hw1
                      have hw1n : wD (A 18) (F 5) IFF (0, F 6) = (0, a1) := hw1
                      have ehw2 : b2 = 1 := by omega
                      rw [ehw2] at hw2
                      have hw2n : wD (A 18) (F 5) YY (0, a1) = (0, a2) := hw2
                      have ehw7 : b7 = 1 := by omega
                      rw [ehw7] at hw7
                      have hw7n : wD (A 18) (F 5) EAR (0, a2) = (0, a7) := hw7
                      have ehw10 : b10 = 1 := by omega
                      rw [ehw10] at hw10
                      have hw10n : dG (A 18) (F 5) 4 (0, a7 + 1) = ((0, a10), v10) := hw10
                      have hYe : eE (A 18) (F 5) 121 (0, a1) = (0, a2) := hw2n
                      have e2 : t2 (A 18) (F 5) (0, F 6) = ((0, a7), 0) := by
                        unfold t2
                        rw [hw1n]
                        rw [if_pos rfl]
                        unfold fD
                        (try dsimp only)
                        rw [if_neg (by omega), hYe]
                        rw [if_pos ⟨rfl, by (try dsimp only); omega⟩, hw7n]
                      have e3 : t3 (A 18) (F 5) (0, F 6) = (0, a7 + 1) := by
                        unfold t3
                        rw [e2]
                        rw [if_pos ⟨rfl, by (try dsimp only); omega⟩]
                      have e4 : dG (A 18) (F 5) 4 (t3 (A 18) (F 5) (0, F 6)) = ((0, a10), v10) := by
                        rw [e3]
                        exact hw10n
                      have eS : tS (A 18) (F 5) (0, F 6) = (0, a10) := by
                        unfold tS
                        rw [if_pos ⟨rfl, by (try dsimp only); omega⟩, e4]
                      have eF : tF (A 18) (F 5) (0, F 6) = 0 := by
                        unfold tF
                        rw [if_pos ⟨rfl, by (try dsimp only); omega⟩, e2]
                      have eG : tG (A 18) (F 5) (0, F 6) = nx (A 18) (F 5) (a7) := by
                        unfold tG
                        rw [e2]
                      have eH : tH (A 18) (F 5) (0, F 6) = v10 := by
                        unfold tH
                        rw [e4]
                      refine ⟨eS, fun _ => ⟨?_, .inr ⟨?_, ?_⟩⟩⟩
                      · rw [eF, ← ex, rd_wr_s (by omega) (by (try simp only [wr_len]); omega)]
                        decide
                      · rw [eG, ← ex, rd_wr_s (by omega) (by (try simp only [wr_len]); omega)]
                      · rw [eH, ← ex, rd_wr_s (by omega) (by (try simp only [wr_len]); omega)]
                    · refine R_s (P := True) (f' := (82, [some (vR 17), some (vR 20), some (vI x), some (vI (nx (A 18) (F 5) (a7)))], [vI 0], LAY (u (u (u A 28 (A 28)) 26 (wr (A 26) x 1)) 27 (wr (A 27) x (nx (A 18) (F 5) (a7)))) (u (u F 6 a10) 7 v10), 0, 0)) hc44 1 rfl trivial ?_
                      refine R_retz hc44 rfl rfl (Or.inl rfl) ⟨0, wr (A 26) x 1, wr (A 27) x (nx (A 18) (F 5) (a7)), A 28, a10, v10, rfl, rfl, (by (try simp only [wr_len]); omega), (by (try simp only [wr_len]); omega), (by (try simp only [wr_len]); omega), by decide, by omega, by first | omega | (have := nx_in (l := A 18) (n := F 5) (a := F 6) (by omega); omega), fun q hq => by rw [rd_wr_n (by omega) (by omega) (by omega)], fun q hq => by rw [rd_wr_n (by omega) (by omega) (by omega)], fun _ _ => rfl, ?_, fun z => absurd z (by decide)⟩
                      have ehw1 : b1 = 1 := by omega
                      rw [ehw1] at hw1
                      have hw1n : wD (A 18) (F 5) IFF (0, F 6) = (0, a1) := hw1
                      have ehw2 : b2 = 1 := by omega
                      rw [ehw2] at hw2
                      have hw2n : wD (A 18) (F 5) YY (0, a1) = (0, a2) := hw2
                      have ehw7 : b7 = 1 := by omega
                      rw [ehw7] at hw7
                      have hw7n : wD (A 18) (F 5) EAR (0, a2) = (0, a7) := hw7
                      have ehw10 : b10 = 0 := by omega
                      rw [ehw10] at hw10
                      have hw10n : dG (A 18) (F 5) 4 (0, a7 + 1) = ((1, a10), v10) := hw10
                      have hYe : eE (A 18) (F 5) 121 (0, a1) = (0, a2) := hw2n
                      have e2 : t2 (A 18) (F 5) (0, F 6) = ((0, a7), 0) := by
                        unfold t2
                        rw [hw1n]
                        rw [if_pos rfl]
                        unfold fD
                        (try dsimp only)
                        rw [if_neg (by omega), hYe]
                        rw [if_pos ⟨rfl, by (try dsimp only); omega⟩, hw7n]
                      have e3 : t3 (A 18) (F 5) (0, F 6) = (0, a7 + 1) := by
                        unfold t3
                        rw [e2]
                        rw [if_pos ⟨rfl, by (try dsimp only); omega⟩]
                      have e4 : dG (A 18) (F 5) 4 (t3 (A 18) (F 5) (0, F 6)) = ((1, a10), v10) := by
                        rw [e3]
                        exact hw10n
                      have eS : tS (A 18) (F 5) (0, F 6) = (1, a10) := by
                        unfold tS
                        rw [if_pos ⟨rfl, by (try dsimp only); omega⟩, e4]
                      exact eS
                  · refine R_s (P := True) (f' := (55, [some (vR 17), some (vR 20), some (vI x), some (vI (nx (A 18) (F 5) (a7)))], [vI 0], LAY (u (u (u A 27 (A 27)) 28 (A 28)) 26 (wr (A 26) x 1)) (u (u F 7 (F 7)) 6 a7), 0, 0)) hc44 1 rfl trivial ?_
                    refine R_retz hc44 rfl rfl (Or.inl rfl) ⟨0, wr (A 26) x 1, A 27, A 28, a7, F 7, rfl, rfl, (by (try simp only [wr_len]); omega), (by (try simp only [wr_len]); omega), (by (try simp only [wr_len]); omega), by decide, by omega, by first | omega | (have := nx_in (l := A 18) (n := F 5) (a := F 6) (by omega); omega), fun q hq => by rw [rd_wr_n (by omega) (by omega) (by omega)], fun _ _ => rfl, fun _ _ => rfl, ?_, fun z => absurd z (by decide)⟩
                    have ehw1 : b1 = 1 := by omega
                    rw [ehw1] at hw1
                    have hw1n : wD (A 18) (F 5) IFF (0, F 6) = (0, a1) := hw1
                    have ehw2 : b2 = 1 := by omega
                    rw [ehw2] at hw2
                    have hw2n : wD (A 18) (F 5) YY (0, a1) = (0, a2) := hw2
                    have ehw7 : b7 = 1 := by omega
                    rw [ehw7] at hw7
                    have hw7n : wD (A 18) (F 5) EAR (0, a2) = (0, a7) := hw7
                    have hYe : eE (A 18) (F 5) 121 (0, a1) = (0, a2) := hw2n
                    have e2 : t2 (A 18) (F 5) (0, F 6) = ((0, a7), 0) := by
                      unfold t2
                      rw [hw1n]
                      rw [if_pos rfl]
                      unfold fD
                      (try dsimp only)
                      rw [if_neg (by omega), hYe]
                      rw [if_pos ⟨rfl, by (try dsimp only); omega⟩, hw7n]
                    have e3 : t3 (A 18) (F 5) (0, F 6) = (1, a7) := by
                      unfold t3
                      rw [e2]
                      rw [if_neg (fun z => by have := z.2; (try dsimp only at this); omega)]
                    have e4 : dG (A 18) (F 5) 4 (t3 (A 18) (F 5) (0, F 6)) = ((1, a7), 0) := by rw [e3, dG_f]
                    have eS : tS (A 18) (F 5) (0, F 6) = (1, a7) := by
                      unfold tS
                      rw [if_pos ⟨rfl, by (try dsimp only); omega⟩, e4]
                    exact eS
            · refine R_s (P := True) (f' := (30, [some (vR 17), some (vR 20), some (vI x), none], [vI 0], LAY (u (u (u A 27 (A 27)) 28 (A 28)) 26 (wr (A 26) x 1)) (u (u F 7 (F 7)) 6 a7), 0, 0)) hc44 1 rfl trivial ?_
              refine R_retz hc44 rfl rfl (Or.inl rfl) ⟨0, wr (A 26) x 1, A 27, A 28, a7, F 7, rfl, rfl, (by (try simp only [wr_len]); omega), (by (try simp only [wr_len]); omega), (by (try simp only [wr_len]); omega), by decide, by omega, by first | omega | (have := nx_in (l := A 18) (n := F 5) (a := F 6) (by omega); omega), fun q hq => by rw [rd_wr_n (by omega) (by omega) (by omega)], fun _ _ => rfl, fun _ _ => rfl, ?_, fun z => absurd z (by decide)⟩
              have ehw1 : b1 = 1 := by omega
              rw [ehw1] at hw1
              have hw1n : wD (A 18) (F 5) IFF (0, F 6) = (0, a1) := hw1
              have ehw2 : b2 = 1 := by omega
              rw [ehw2] at hw2
              have hw2n : wD (A 18) (F 5) YY (0, a1) = (0, a2) := hw2
              have ehw7 : b7 = 0 := by omega
              rw [ehw7] at hw7
              have hw7n : wD (A 18) (F 5) EAR (0, a2) = (1, a7) := hw7
              have hYe : eE (A 18) (F 5) 121 (0, a1) = (0, a2) := hw2n
              have e2 : t2 (A 18) (F 5) (0, F 6) = ((1, a7), 0) := by
                unfold t2
                rw [hw1n]
                rw [if_pos rfl]
                unfold fD
                (try dsimp only)
                rw [if_neg (by omega), hYe]
                rw [if_pos ⟨rfl, by (try dsimp only); omega⟩, hw7n]
              have e3 : t3 (A 18) (F 5) (0, F 6) = (1, a7) := by
                unfold t3
                rw [e2]
                rw [if_neg (fun z => absurd (show (1 : Int) = 0 from z.1) (by decide))]
              have e4 : dG (A 18) (F 5) 4 (t3 (A 18) (F 5) (0, F 6)) = ((1, a7), 0) := by rw [e3, dG_f]
              have eS : tS (A 18) (F 5) (0, F 6) = (1, a7) := by
                unfold tS
                rw [if_pos ⟨rfl, by (try dsimp only); omega⟩, e4]
              exact eS
        · refine R_s (P := True) (f' := (33, [some (vR 17), some (vR 20), some (vI x), none], [vI 0], LAY (u (u (u A 26 (A 26)) 27 (A 27)) 28 (A 28)) (u (u F 7 (F 7)) 6 a2), 0, 0)) hc45 1 rfl trivial ?_
          refine R_retz hc45 rfl rfl (Or.inl rfl) ?_
          refine R_s (f' := (26, [some (vR 17), some (vR 20), some (vI x), none], [vI 0], LAY (u (u (u A 26 (A 26)) 27 (A 27)) 28 (A 28)) (u (u F 7 (F 7)) 6 a2), 0, 0)) hc44 0 rfl trivial ?_
          refine R_if (t := 31) hc44 rfl rfl (fun (z : ¬ 0 = 0) => absurd z (by decide)) (fun (_ : ¬ (¬ 0 = 0)) => ?_)
          refine R_s (P := True) (f' := (30, [some (vR 17), some (vR 20), some (vI x), none], [vI 0], LAY (u (u (u A 26 (A 26)) 27 (A 27)) 28 (A 28)) (u (u F 7 (F 7)) 6 a2), 0, 0)) hc44 1 rfl trivial ?_
          refine R_retz hc44 rfl rfl (Or.inl rfl) ⟨0, A 26, A 27, A 28, a2, F 7, rfl, rfl, (by (try simp only [wr_len]); omega), (by (try simp only [wr_len]); omega), (by (try simp only [wr_len]); omega), by decide, by omega, by first | omega | (have := nx_in (l := A 18) (n := F 5) (a := F 6) (by omega); omega), fun _ _ => rfl, fun _ _ => rfl, fun _ _ => rfl, ?_, fun z => absurd z (by decide)⟩
          have ehw1 : b1 = 1 := by omega
          rw [ehw1] at hw1
          have hw1n : wD (A 18) (F 5) IFF (0, F 6) = (0, a1) := hw1
          have ehw2 : b2 = 0 := by omega
          rw [ehw2] at hw2
          have hw2n : wD (A 18) (F 5) YY (0, a1) = (1, a2) := hw2
          have hYe : eE (A 18) (F 5) 121 (0, a1) = (1, a2) := hw2n
          have e2 : t2 (A 18) (F 5) (0, F 6) = ((1, a2), 1) := by
            unfold t2
            rw [hw1n]
            rw [if_pos rfl]
            unfold fD
            (try dsimp only)
            rw [if_neg (by omega), hYe]
            rw [if_neg (fun z => absurd (show (1 : Int) = 0 from z.1) (by decide)), wD_f]
          have e3 : t3 (A 18) (F 5) (0, F 6) = (1, a2) := by
            unfold t3
            rw [e2]
            rw [if_neg (fun z => absurd (show (1 : Int) = 0 from z.1) (by decide))]
          have e4 : dG (A 18) (F 5) 4 (t3 (A 18) (F 5) (0, F 6)) = ((1, a2), 0) := by rw [e3, dG_f]
          have eS : tS (A 18) (F 5) (0, F 6) = (1, a2) := by
            unfold tS
            rw [if_pos ⟨rfl, by (try dsimp only); omega⟩, e4]
          exact eS
      · refine R_s (P := (0 ≤ x ∧ x < ((A 26).length : Int)) ∧ True) (f' := (19, [some (vR 17), some (vR 20), some (vI x), none], [vS 3, vR 17], LAY (u (u (u A 27 (A 27)) 28 (A 28)) 26 (wr (A 26) x 3)) (u (u F 7 (F 7)) 6 a1), 0, 0)) hc45 7 rfl ⟨⟨by omega, by omega⟩, trivial⟩ ?_
        refine R_cv hc45 rfl rfl (l_word3 (A := (u (u (u A 27 (A 27)) 28 (A 28)) 26 (wr (A 26) x 3))) (F := (u (u F 7 (F 7)) 6 a1)) (LENS_u (LENS_u (LENS_u hL (by show (A 27).length = (A 27).length; omega)) (by show (A 28).length = (A 28).length; omega)) (by show (wr (A 26) x 3).length = (A 26).length; simp only [wr_len])) h5 ⟨by (show 0 ≤ a1); omega, by (show a1 ≤ F 5); omega⟩) (fun r G9 hp9 => ?_)
        obtain ⟨b11, a11, rfl, rfl, hb11, hw11, p11, q11⟩ := hp9
        have p11 : 0 ≤ a11 := p11
        have q11 : a11 ≤ F 5 := q11
        refine R_s (f' := (22, [some (vR 17), some (vR 20), some (vI x), none], [vI b11], LAY (u (u (u A 27 (A 27)) 28 (A 28)) 26 (wr (A 26) x 3)) (u (u F 7 (F 7)) 6 a11), 0, 0)) hc45 0 rfl trivial ?_
        refine R_retz hc45 rfl rfl (by omega) ?_
        refine R_s (f' := (26, [some (vR 17), some (vR 20), some (vI x), none], [vI b11], LAY (u (u (u A 27 (A 27)) 28 (A 28)) 26 (wr (A 26) x 3)) (u (u F 7 (F 7)) 6 a11), 0, 0)) hc44 0 rfl trivial ?_
        refine R_if (t := 31) hc44 rfl rfl (fun (c10 : ¬ b11 = 0) => ?_) (fun (c10 : ¬ (¬ b11 = 0)) => ?_)
        · refine R_s (P := True) (f' := (32, [some (vR 17), some (vR 20), some (vI x), none], [vR 17], LAY (u (u (u A 27 (A 27)) 28 (A 28)) 26 (wr (A 26) x 3)) (u (u F 7 (F 7)) 6 a11), 0, 0)) hc44 1 rfl trivial ?_
          refine R_cv hc44 rfl rfl (l_next (A := (u (u (u A 27 (A 27)) 28 (A 28)) 26 (wr (A 26) x 3))) (F := (u (u F 7 (F 7)) 6 a11)) (LENS_u (LENS_u (LENS_u hL (by show (A 27).length = (A 27).length; omega)) (by show (A 28).length = (A 28).length; omega)) (by show (wr (A 26) x 3).length = (A 26).length; simp only [wr_len])) h5 ⟨by (show 0 ≤ a11); omega, by (show a11 ≤ F 5); omega⟩) (fun r G9 hp9 => ?_)
          obtain ⟨e1, rfl⟩ := hp9
          have e2 : r = some (vI (nx (A 18) (F 5) (a11))) := e1
          clear e1
          subst e2
          refine R_s (f' := (35, [some (vR 17), some (vR 20), some (vI x), none], [vI (nx (A 18) (F 5) (a11))], LAY (u (u (u A 27 (A 27)) 28 (A 28)) 26 (wr (A 26) x 3)) (u (u F 7 (F 7)) 6 a11), 0, 0)) hc44 0 rfl trivial ?_
          refine R_s (P := True) (f' := (39, [some (vR 17), some (vR 20), some (vI x), some (vI (nx (A 18) (F 5) (a11)))], [vI 61, vI (nx (A 18) (F 5) (a11))], LAY (u (u (u A 27 (A 27)) 28 (A 28)) 26 (wr (A 26) x 3)) (u (u F 7 (F 7)) 6 a11), 0, 0)) hc44 3 rfl trivial ?_
          refine R_ic (t := 56) hc44 rfl rfl (fun (c11 : nx (A 18) (F 5) (a11) = 61) => ?_) (fun (c11 : ¬ (nx (A 18) (F 5) (a11) = 61)) => ?_)
          · refine R_s (P := (0 ≤ x ∧ x < ((A 27).length : Int)) ∧ inI (a11 + 1) ∧ True) (f' := (75, [some (vR 17), some (vR 20), some (vI x), some (vI (nx (A 18) (F 5) (a11)))], [vI 4, vR 17], LAY (u (u (u A 28 (A 28)) 26 (wr (A 26) x 3)) 27 (wr (A 27) x (nx (A 18) (F 5) (a11)))) (u (u F 7 (F 7)) 6 (a11 + 1)), 0, 0)) hc44 13 rfl ⟨⟨by omega, by omega⟩, ⟨by omega, by omega⟩, trivial⟩ ?_
            refine R_cv hc44 rfl rfl (l_numb (A := (u (u (u A 28 (A 28)) 26 (wr (A 26) x 3)) 27 (wr (A 27) x (nx (A 18) (F 5) (a11))))) (F := (u (u F 7 (F 7)) 6 (a11 + 1))) (LENS_u (LENS_u (LENS_u hL (by show (A 28).length = (A 28).length; omega)) (by show (wr (A 26) x 3).length = (A 26).length; simp only [wr_len])) (by show (wr (A 27) x (nx (A 18) (F 5) (a11))).length = (A 27).length; simp only [wr_len])) h5 ⟨by (show 0 ≤ a11 + 1); omega, by (have := nx_in (l := A 18) (n := F 5) (a := a11) (by omega)); (show a11 + 1 ≤ F 5); omega⟩ (kk := 4) (by decide) rfl) (fun r G9 hp9 => ?_)
            obtain ⟨b12, a12, v12, rfl, rfl, hb12, hw12, p12, q12, w12⟩ := hp9
            have p12 : 0 ≤ a12 := p12
            have q12 : a12 ≤ F 5 := q12
            refine R_s (f' := (78, [some (vR 17), some (vR 20), some (vI x), some (vI (nx (A 18) (F 5) (a11)))], [vI b12], LAY (u (u (u A 28 (A 28)) 26 (wr (A 26) x 3)) 27 (wr (A 27) x (nx (A 18) (F 5) (a11)))) (u (u F 6 a12) 7 v12), 0, 0)) hc44 0 rfl trivial ?_
            refine R_if (t := 83) hc44 rfl rfl (fun (c12 : ¬ b12 = 0) => ?_) (fun (c12 : ¬ (¬ b12 = 0)) => ?_)
            · refine R_s (P := (0 ≤ x ∧ x < ((A 28).length : Int)) ∧ True) (f' := (94, [some (vR 17), some (vR 20), some (vI x), some (vI (nx (A 18) (F 5) (a11)))], [vI 1], LAY (u (u (u A 26 (wr (A 26) x 3)) 27 (wr (A 27) x (nx (A 18) (F 5) (a11)))) 28 (wr (A 28) x v12)) (u (u F 6 a12) 7 v12), 0, 0)) hc44 7 rfl ⟨⟨by omega, by omega⟩, trivial⟩ ?_
              refine R_retz hc44 rfl rfl (Or.inr rfl) ⟨1, wr (A 26) x 3, wr (A 27) x (nx (A 18) (F 5) (a11)), wr (A 28) x v12, a12, v12, rfl, rfl, (by (try simp only [wr_len]); omega), (by (try simp only [wr_len]); omega), (by (try simp only [wr_len]); omega), by decide, by omega, by first | omega | (have := nx_in (l := A 18) (n := F 5) (a := F 6) (by omega); omega), fun q hq => by rw [rd_wr_n (by omega) (by omega) (by omega)], fun q hq => by rw [rd_wr_n (by omega) (by omega) (by omega)], fun q hq => by rw [rd_wr_n (by omega) (by omega) (by omega)], ?_⟩
              have ehw1 : b1 = 1 := by omega
              rw [ehw1] at hw1
              have hw1n : wD (A 18) (F 5) IFF (0, F 6) = (0, a1) := hw1
              have ehw11 : b11 = 1 := by omega
              rw [ehw11] at hw11
              have hw11n : wD (A 18) (F 5) ALIVE (0, a1) = (0, a11) := hw11
              have ehw12 : b12 = 1 := by omega
              rw [ehw12] at hw12
              have hw12n : dG (A 18) (F 5) 4 (0, a11 + 1) = ((0, a12), v12) := hw12
              have e2 : t2 (A 18) (F 5) (0, F 6) = ((0, a11), 2) := by
                unfold t2
                rw [hw1n]
                rw [if_pos rfl]
                unfold fD
                (try dsimp only)
                rw [if_pos (by omega), hw11n]
              have e3 : t3 (A 18) (F 5) (0, F 6) = (0, a11 + 1) := by
                unfold t3
                rw [e2]
                rw [if_pos ⟨rfl, by (try dsimp only); omega⟩]
              have e4 : dG (A 18) (F 5) 4 (t3 (A 18) (F 5) (0, F 6)) = ((0, a12), v12) := by
                rw [e3]
                exact hw12n
              have eS : tS (A 18) (F 5) (0, F 6) = (0, a12) := by
                unfold tS
                rw [if_pos ⟨rfl, by (try dsimp only); omega⟩, e4]
              have eF : tF (A 18) (F 5) (0, F 6) = 2 := by
                unfold tF
                rw [if_pos ⟨rfl, by (try dsimp only); omega⟩, e2]
              have eG : tG (A 18) (F 5) (0, F 6) = nx (A 18) (F 5) (a11) := by
                unfold tG
                rw [e2]
              have eH : tH (A 18) (F 5) (0, F 6) = v12 := by
                unfold tH
                rw [e4]
              refine ⟨eS, fun _ => ⟨?_, .inr ⟨?_, ?_⟩⟩⟩
              · rw [eF, ← ex, rd_wr_s (by omega) (by (try simp only [wr_len]); omega)]
                decide
              · rw [eG, ← ex, rd_wr_s (by omega) (by (try simp only [wr_len]); omega)]
              · rw [eH, ← ex, rd_wr_s (by omega) (by (try simp only [wr_len]); omega)]
            · refine R_s (P := True) (f' := (82, [some (vR 17), some (vR 20), some (vI x), some (vI (nx (A 18) (F 5) (a11)))], [vI 0], LAY (u (u (u A 28 (A 28)) 26 (wr (A 26) x 3)) 27 (wr (A 27) x (nx (A 18) (F 5) (a11)))) (u (u F 6 a12) 7 v12), 0, 0)) hc44 1 rfl trivial ?_
              refine R_retz hc44 rfl rfl (Or.inl rfl) ⟨0, wr (A 26) x 3, wr (A 27) x (nx (A 18) (F 5) (a11)), A 28, a12, v12, rfl, rfl, (by (try simp only [wr_len]); omega), (by (try simp only [wr_len]); omega), (by (try simp only [wr_len]); omega), by decide, by omega, by first | omega | (have := nx_in (l := A 18) (n := F 5) (a := F 6) (by omega); omega), fun q hq => by rw [rd_wr_n (by omega) (by omega) (by omega)], fun q hq => by rw [rd_wr_n (by omega) (by omega) (by omega)], fun _ _ => rfl, ?_, fun z => absurd z (by decide)⟩
              have ehw1 : b1 = 1 := by omega
              rw [ehw1] at hw1
              have hw1n : wD (A 18) (F 5) IFF (0, F 6) = (0, a1) := hw1
              have ehw11 : b11 = 1 := by omega
              rw [ehw11] at hw11
              have hw11n : wD (A 18) (F 5) ALIVE (0, a1) = (0, a11) := hw11
              have ehw12 : b12 = 0 := by omega
              rw [ehw12] at hw12
              have hw12n : dG (A 18) (F 5) 4 (0, a11 + 1) = ((1, a12), v12) := hw12
              have e2 : t2 (A 18) (F 5) (0, F 6) = ((0, a11), 2) := by
                unfold t2
                rw [hw1n]
                rw [if_pos rfl]
                unfold fD
                (try dsimp only)
                rw [if_pos (by omega), hw11n]
              have e3 : t3 (A 18) (F 5) (0, F 6) = (0, a11 + 1) := by
                unfold t3
                rw [e2]
                rw [if_pos ⟨rfl, by (try dsimp only); omega⟩]
              have e4 : dG (A 18) (F 5) 4 (t3 (A 18) (F 5) (0, F 6)) = ((1, a12), v12) := by
                rw [e3]
                exact hw12n
              have eS : tS (A 18) (F 5) (0, F 6) = (1, a12) := by
                unfold tS
                rw [if_pos ⟨rfl, by (try dsimp only); omega⟩, e4]
              exact eS
          · refine R_s (P := True) (f' := (45, [some (vR 17), some (vR 20), some (vI x), some (vI (nx (A 18) (F 5) (a11)))], [vI 60, vI (nx (A 18) (F 5) (a11))], LAY (u (u (u A 27 (A 27)) 28 (A 28)) 26 (wr (A 26) x 3)) (u (u F 7 (F 7)) 6 a11), 0, 0)) hc44 2 rfl trivial ?_
            refine R_ic (t := 56) hc44 rfl rfl (fun (c13 : nx (A 18) (F 5) (a11) = 60) => ?_) (fun (c13 : ¬ (nx (A 18) (F 5) (a11) = 60)) => ?_)
            · refine R_s (P := (0 ≤ x ∧ x < ((A 27).length : Int)) ∧ inI (a11 + 1) ∧ True) (f' := (75, [some (vR 17), some (vR 20), some (vI x), some (vI (nx (A 18) (F 5) (a11)))], [vI 4, vR 17], LAY (u (u (u A 28 (A 28)) 26 (wr (A 26) x 3)) 27 (wr (A 27) x (nx (A 18) (F 5) (a11)))) (u (u F 7 (F 7)) 6 (a11 + 1)), 0, 0)) hc44 13 rfl ⟨⟨by omega, by omega⟩, ⟨by omega, by omega⟩, trivial⟩ ?_
              refine R_cv hc44 rfl rfl (l_numb (A := (u (u (u A 28 (A 28)) 26 (wr (A 26) x 3)) 27 (wr (A 27) x (nx (A 18) (F 5) (a11))))) (F := (u (u F 7 (F 7)) 6 (a11 + 1))) (LENS_u (LENS_u (LENS_u hL (by show (A 28).length = (A 28).length; omega)) (by show (wr (A 26) x 3).length = (A 26).length; simp only [wr_len])) (by show (wr (A 27) x (nx (A 18) (F 5) (a11))).length = (A 27).length; simp only [wr_len])) h5 ⟨by (show 0 ≤ a11 + 1); omega, by (have := nx_in (l := A 18) (n := F 5) (a := a11) (by omega)); (show a11 + 1 ≤ F 5); omega⟩ (kk := 4) (by decide) rfl) (fun r G9 hp9 => ?_)
              obtain ⟨b13, a13, v13, rfl, rfl, hb13, hw13, p13, q13, w13⟩ := hp9
              have p13 : 0 ≤ a13 := p13
              have q13 : a13 ≤ F 5 := q13
              refine R_s (f' := (78, [some (vR 17), some (vR 20), some (vI x), some (vI (nx (A 18) (F 5) (a11)))], [vI b13], LAY (u (u (u A 28 (A 28)) 26 (wr (A 26) x 3)) 27 (wr (A 27) x (nx (A 18) (F 5) (a11)))) (u (u F 6 a13) 7 v13), 0, 0)) hc44 0 rfl trivial ?_
              refine R_if (t := 83) hc44 rfl rfl (fun (c14 : ¬ b13 = 0) => ?_) (fun (c14 : ¬ (¬ b13 = 0)) => ?_)
              · refine R_s (P := (0 ≤ x ∧ x < ((A 28).length : Int)) ∧ True) (f' := (94, [some (vR 17), some (vR 20), some (vI x), some (vI (nx (A 18) (F 5) (a11)))], [vI 1], LAY (u (u (u A 26 (wr (A 26) x 3)) 27 (wr (A 27) x (nx (A 18) (F 5) (a11)))) 28 (wr (A 28) x v13)) (u (u F 6 a13) 7 v13), 0, 0)) hc44 7 rfl ⟨⟨by omega, by omega⟩, trivial⟩ ?_
                refine R_retz hc44 rfl rfl (Or.inr rfl) ⟨1, wr (A 26) x 3, wr (A 27) x (nx (A 18) (F 5) (a11)), wr (A 28) x v13, a13, v13, rfl, rfl, (by (try simp only [wr_len]); omega), (by (try simp only [wr_len]); omega), (by (try simp only [wr_len]); omega), by decide, by omega, by first | omega | (have := nx_in (l := A 18) (n := F 5) (a := F 6) (by omega); omega), fun q hq => by rw [rd_wr_n (by omega) (by omega) (by omega)], fun q hq => by rw [rd_wr_n (by omega) (by omega) (by omega)], fun q hq => by rw [rd_wr_n (by omega) (by omega) (by omega)], ?_⟩
                have ehw1 : b1 = 1 := by omega
                rw [ehw1] at hw1
                have hw1n : wD (A 18) (F 5) IFF (0, F 6) = (0, a1) := hw1
                have ehw11 : b11 = 1 := by omega
                rw [ehw11] at hw11
                have hw11n : wD (A 18) (F 5) ALIVE (0, a1) = (0, a11) := hw11
                have ehw13 : b13 = 1 := by omega
                rw [ehw13] at hw13
                have hw13n : dG (A 18) (F 5) 4 (0, a11 + 1) = ((0, a13), v13) := hw13
                have e2 : t2 (A 18) (F 5) (0, F 6) = ((0, a11), 2) := by
                  unfold t2
                  rw [hw1n]
                  rw [if_pos rfl]
                  unfold fD
                  (try dsimp only)
                  rw [if_pos (by omega), hw11n]
                have e3 : t3 (A 18) (F 5) (0, F 6) = (0, a11 + 1) := by
                  unfold t3
                  rw [e2]
                  rw [if_pos ⟨rfl, by (try dsimp only); omega⟩]
                have e4 : dG (A 18) (F 5) 4 (t3 (A 18) (F 5) (0, F 6)) = ((0, a13), v13) := by
                  rw [e3]
                  exact hw13n
                have eS : tS (A 18) (F 5) (0, F 6) = (0, a13) := by
                  unfold tS
                  rw [if_pos ⟨rfl, by (try dsimp only); omega⟩, e4]
                have eF : tF (A 18) (F 5) (0, F 6) = 2 := by
                  unfold tF
                  rw [if_pos ⟨rfl, by (try dsimp only); omega⟩, e2]
                have eG : tG (A 18) (F 5) (0, F 6) = nx (A 18) (F 5) (a11) := by
                  unfold tG
                  rw [e2]
                have eH : tH (A 18) (F 5) (0, F 6) = v13 := by
                  unfold tH
                  rw [e4]
                refine ⟨eS, fun _ => ⟨?_, .inr ⟨?_, ?_⟩⟩⟩
                · rw [eF, ← ex, rd_wr_s (by omega) (by (try simp only [wr_len]); omega)]
                  decide
                · rw [eG, ← ex, rd_wr_s (by omega) (by (try simp only [wr_len]); omega)]
                · rw [eH, ← ex, rd_wr_s (by omega) (by (try simp only [wr_len]); omega)]
              · refine R_s (P := True) (f' := (82, [some (vR 17), some (vR 20), some (vI x), some (vI (nx (A 18) (F 5) (a11)))], [vI 0], LAY (u (u (u A 28 (A 28)) 26 (wr (A 26) x 3)) 27 (wr (A 27) x (nx (A 18) (F 5) (a11)))) (u (u F 6 a13) 7 v13), 0, 0)) hc44 1 rfl trivial ?_
                refine R_retz hc44 rfl rfl (Or.inl rfl) ⟨0, wr (A 26) x 3, wr (A 27) x (nx (A 18) (F 5) (a11)), A 28, a13, v13, rfl, rfl, (by (try simp only [wr_len]); omega), (by (try simp only [wr_len]); omega), (by (try simp only [wr_len]); omega), by decide, by omega, by first | omega | (have := nx_in (l := A 18) (n := F 5) (a := F 6) (by omega); omega), fun q hq => by rw [rd_wr_n (by omega) (by omega) (by omega)], fun q hq => by rw [rd_wr_n (by omega) (by omega) (by omega)], fun _ _ => rfl, ?_, fun z => absurd z (by decide)⟩
                have ehw1 : b1 = 1 := by omega
                rw [ehw1] at hw1
                have hw1n : wD (A 18) (F 5) IFF (0, F 6) = (0, a1) := hw1
                have ehw11 : b11 = 1 := by omega
                rw [ehw11] at hw11
                have hw11n : wD (A 18) (F 5) ALIVE (0, a1) = (0, a11) := hw11
                have ehw13 : b13 = 0 := by omega
                rw [ehw13] at hw13
                have hw13n : dG (A 18) (F 5) 4 (0, a11 + 1) = ((1, a13), v13) := hw13
                have e2 : t2 (A 18) (F 5) (0, F 6) = ((0, a11), 2) := by
                  unfold t2
                  rw [hw1n]
                  rw [if_pos rfl]
                  unfold fD
                  (try dsimp only)
                  rw [if_pos (by omega), hw11n]
                have e3 : t3 (A 18) (F 5) (0, F 6) = (0, a11 + 1) := by
                  unfold t3
                  rw [e2]
                  rw [if_pos ⟨rfl, by (try dsimp only); omega⟩]
                have e4 : dG (A 18) (F 5) 4 (t3 (A 18) (F 5) (0, F 6)) = ((1, a13), v13) := by
                  rw [e3]
                  exact hw13n
                have eS : tS (A 18) (F 5) (0, F 6) = (1, a13) := by
                  unfold tS
                  rw [if_pos ⟨rfl, by (try dsimp only); omega⟩, e4]
                exact eS
            · refine R_s (P := True) (f' := (51, [some (vR 17), some (vR 20), some (vI x), some (vI (nx (A 18) (F 5) (a11)))], [vI 62, vI (nx (A 18) (F 5) (a11))], LAY (u (u (u A 27 (A 27)) 28 (A 28)) 26 (wr (A 26) x 3)) (u (u F 7 (F 7)) 6 a11), 0, 0)) hc44 2 rfl trivial ?_
              refine R_ic (t := 56) hc44 rfl rfl (fun (c15 : nx (A 18) (F 5) (a11) = 62) => ?_) (fun (c15 : ¬ (nx (A 18) (F 5) (a11) = 62)) => ?_)
              · refine R_s (P := (0 ≤ x ∧ x < ((A 27).length : Int)) ∧ inI (a11 + 1) ∧ True) (f' := (75, [some (vR 17), some (vR 20), some (vI x), some (vI (nx (A 18) (F 5) (a11)))], [vI 4, vR 17], LAY (u (u (u A 28 (A 28)) 26 (wr (A 26) x 3)) 27 (wr (A 27) x (nx (A 18) (F 5) (a11)))) (u (u F 7 (F 7)) 6 (a11 + 1)), 0, 0)) hc44 13 rfl ⟨⟨by omega, by omega⟩, ⟨by omega, by omega⟩, trivial⟩ ?_
                refine R_cv hc44 rfl rfl (l_numb (A := (u (u (u A 28 (A 28)) 26 (wr (A 26) x 3)) 27 (wr (A 27) x (nx (A 18) (F 5) (a11))))) (F := (u (u F 7 (F 7)) 6 (a11 + 1))) (LENS_u (LENS_u (LENS_u hL (by show (A 28).length = (A 28).length; omega)) (by show (wr (A 26) x 3).length = (A 26).length; simp only [wr_len])) (by show (wr (A 27) x (nx (A 18) (F 5) (a11))).length = (A 27).length; simp only [wr_len])) h5 ⟨by (show 0 ≤ a11 + 1); omega, by (have := nx_in (l := A 18) (n := F 5) (a := a11) (by omega)); (show a11 + 1 ≤ F 5); omega⟩ (kk := 4) (by decide) rfl) (fun r G9 hp9 => ?_)
                obtain ⟨b14, a14, v14, rfl, rfl, hb14, hw14, p14, q14, w14⟩ := hp9
                have p14 : 0 ≤ a14 := p14
                have q14 : a14 ≤ F 5 := q14
                refine R_s (f' := (78, [some (vR 17), some (vR 20), some (vI x), some (vI (nx (A 18) (F 5) (a11)))], [vI b14], LAY (u (u (u A 28 (A 28)) 26 (wr (A 26) x 3)) 27 (wr (A 27) x (nx (A 18) (F 5) (a11)))) (u (u F 6 a14) 7 v14), 0, 0)) hc44 0 rfl trivial ?_
                refine R_if (t := 83) hc44 rfl rfl (fun (c16 : ¬ b14 = 0) => ?_) (fun (c16 : ¬ (¬ b14 = 0)) => ?_)
                · refine R_s (P := (0 ≤ x ∧ x < ((A 28).length : Int)) ∧ True) (f' := (94, [some (vR 17), some (vR 20), some (vI x), some (vI (nx (A 18) (F 5) (a11)))], [vI 1], LAY (u (u (u A 26 (wr (A 26) x 3)) 27 (wr (A 27) x (nx (A 18) (F 5) (a11)))) 28 (wr (A 28) x v14)) (u (u F 6 a14) 7 v14), 0, 0)) hc44 7 rfl ⟨⟨by omega, by omega⟩, trivial⟩ ?_
                  refine R_retz hc44 rfl rfl (Or.inr rfl) ⟨1, wr (A 26) x 3, wr (A 27) x (nx (A 18) (F 5) (a11)), wr (A 28) x v14, a14, v14, rfl, rfl, (by (try simp only [wr_len]); omega), (by (try simp only [wr_len]); omega), (by (try simp only [wr_len]); omega), by decide, by omega, by first | omega | (have := nx_in (l := A 18) (n := F 5) (a := F 6) (by omega); omega), fun q hq => by rw [rd_wr_n (by omega) (by omega) (by omega)], fun q hq => by rw [rd_wr_n (by omega) (by omega) (by omega)], fun q hq => by rw [rd_wr_n (by omega) (by omega) (by omega)], ?_⟩
                  have ehw1 : b1 = 1 := by omega
                  rw [ehw1] at hw1
                  have hw1n : wD (A 18) (F 5) IFF (0, F 6) = (0, a1) := hw1
                  have ehw11 : b11 = 1 := by omega
                  rw [ehw11] at hw11
                  have hw11n : wD (A 18) (F 5) ALIVE (0, a1) = (0, a11) := hw11
                  have ehw14 : b14 = 1 := by omega
                  rw [ehw14] at hw14
                  have hw14n : dG (A 18) (F 5) 4 (0, a11 + 1) = ((0, a14), v14) := hw14
                  have e2 : t2 (A 18) (F 5) (0, F 6) = ((0, a11), 2) := by
                    unfold t2
                    rw [hw1n]
                    rw [if_pos rfl]
                    unfold fD
                    (try dsimp only)
                    rw [if_pos (by omega), hw11n]
                  have e3 : t3 (A 18) (F 5) (0, F 6) = (0, a11 + 1) := by
                    unfold t3
                    rw [e2]
                    rw [if_pos ⟨rfl, by (try dsimp only); omega⟩]
                  have e4 : dG (A 18) (F 5) 4 (t3 (A 18) (F 5) (0, F 6)) = ((0, a14), v14) := by
                    rw [e3]
                    exact hw14n
                  have eS : tS (A 18) (F 5) (0, F 6) = (0, a14) := by
                    unfold tS
                    rw [if_pos ⟨rfl, by (try dsimp only); omega⟩, e4]
                  have eF : tF (A 18) (F 5) (0, F 6) = 2 := by
                    unfold tF
                    rw [if_pos ⟨rfl, by (try dsimp only); omega⟩, e2]
                  have eG : tG (A 18) (F 5) (0, F 6) = nx (A 18) (F 5) (a11) := by
                    unfold tG
                    rw [e2]
                  have eH : tH (A 18) (F 5) (0, F 6) = v14 := by
                    unfold tH
                    rw [e4]
                  refine ⟨eS, fun _ => ⟨?_, .inr ⟨?_, ?_⟩⟩⟩
                  · rw [eF, ← ex, rd_wr_s (by omega) (by (try simp only [wr_len]); omega)]
                    decide
                  · rw [eG, ← ex, rd_wr_s (by omega) (by (try simp only [wr_len]); omega)]
                  · rw [eH, ← ex, rd_wr_s (by omega) (by (try simp only [wr_len]); omega)]
                · refine R_s (P := True) (f' := (82, [some (vR 17), some (vR 20), some (vI x), some (vI (nx (A 18) (F 5) (a11)))], [vI 0], LAY (u (u (u A 28 (A 28)) 26 (wr (A 26) x 3)) 27 (wr (A 27) x (nx (A 18) (F 5) (a11)))) (u (u F 6 a14) 7 v14), 0, 0)) hc44 1 rfl trivial ?_
                  refine R_retz hc44 rfl rfl (Or.inl rfl) ⟨0, wr (A 26) x 3, wr (A 27) x (nx (A 18) (F 5) (a11)), A 28, a14, v14, rfl, rfl, (by (try simp only [wr_len]); omega), (by (try simp only [wr_len]); omega), (by (try simp only [wr_len]); omega), by decide, by omega, by first | omega | (have := nx_in (l := A 18) (n := F 5) (a := F 6) (by omega); omega), fun q hq => by rw [rd_wr_n (by omega) (by omega) (by omega)], fun q hq => by rw [rd_wr_n (by omega) (by omega) (by omega)], fun _ _ => rfl, ?_, fun z => absurd z (by decide)⟩
                  have ehw1 : b1 = 1 := by omega
                  rw [ehw1] at hw1
                  have hw1n : wD (A 18) (F 5) IFF (0, F 6) = (0, a1) := hw1
                  have ehw11 : b11 = 1 := by omega
                  rw [ehw11] at hw11
                  have hw11n : wD (A 18) (F 5) ALIVE (0, a1) = (0, a11) := hw11
                  have ehw14 : b14 = 0 := by omega
                  rw [ehw14] at hw14
                  have hw14n : dG (A 18) (F 5) 4 (0, a11 + 1) = ((1, a14), v14) := hw14
                  have e2 : t2 (A 18) (F 5) (0, F 6) = ((0, a11), 2) := by
                    unfold t2
                    rw [hw1n]
                    rw [if_pos rfl]
                    unfold fD
                    (try dsimp only)
                    rw [if_pos (by omega), hw11n]
                  have e3 : t3 (A 18) (F 5) (0, F 6) = (0, a11 + 1) := by
                    unfold t3
                    rw [e2]
                    rw [if_pos ⟨rfl, by (try dsimp only); omega⟩]
                  have e4 : dG (A 18) (F 5) 4 (t3 (A 18) (F 5) (0, F 6)) = ((1, a14), v14) := by
                    rw [e3]
                    exact hw14n
                  have eS : tS (A 18) (F 5) (0, F 6) = (1, a14) := by
                    unfold tS
                    rw [if_pos ⟨rfl, by (try dsimp only); omega⟩, e4]
                  exact eS
              · refine R_s (P := True) (f' := (55, [some (vR 17), some (vR 20), some (vI x), some (vI (nx (A 18) (F 5) (a11)))], [vI 0], LAY (u (u (u A 27 (A 27)) 28 (A 28)) 26 (wr (A 26) x 3)) (u (u F 7 (F 7)) 6 a11), 0, 0)) hc44 1 rfl trivial ?_
                refine R_retz hc44 rfl rfl (Or.inl rfl) ⟨0, wr (A 26) x 3, A 27, A 28, a11, F 7, rfl, rfl, (by (try simp only [wr_len]); omega), (by (try simp only [wr_len]); omega), (by (try simp only [wr_len]); omega), by decide, by omega, by first | omega | (have := nx_in (l := A 18) (n := F 5) (a := F 6) (by omega); omega), fun q hq => by rw [rd_wr_n (by omega) (by omega) (by omega)], fun _ _ => rfl, fun _ _ => rfl, ?_, fun z => absurd z (by decide)⟩
                have ehw1 : b1 = 1 := by omega
                rw [ehw1] at hw1
                have hw1n : wD (A 18) (F 5) IFF (0, F 6) = (0, a1) := hw1
                have ehw11 : b11 = 1 := by omega
                rw [ehw11] at hw11
                have hw11n : wD (A 18) (F 5) ALIVE (0, a1) = (0, a11) := hw11
                have e2 : t2 (A 18) (F 5) (0, F 6) = ((0, a11), 2) := by
                  unfold t2
                  rw [hw1n]
                  rw [if_pos rfl]
                  unfold fD
                  (try dsimp only)
                  rw [if_pos (by omega), hw11n]
                have e3 : t3 (A 18) (F 5) (0, F 6) = (1, a11) := by
                  unfold t3
                  rw [e2]
                  rw [if_neg (fun z => by have := z.2; (try dsimp only at this); omega)]
                have e4 : dG (A 18) (F 5) 4 (t3 (A 18) (F 5) (0, F 6)) = ((1, a11), 0) := by rw [e3, dG_f]
                have eS : tS (A 18) (F 5) (0, F 6) = (1, a11) := by
                  unfold tS
                  rw [if_pos ⟨rfl, by (try dsimp only); omega⟩, e4]
                exact eS
        · refine R_s (P := True) (f' := (30, [some (vR 17), some (vR 20), some (vI x), none], [vI 0], LAY (u (u (u A 27 (A 27)) 28 (A 28)) 26 (wr (A 26) x 3)) (u (u F 7 (F 7)) 6 a11), 0, 0)) hc44 1 rfl trivial ?_
          refine R_retz hc44 rfl rfl (Or.inl rfl) ⟨0, wr (A 26) x 3, A 27, A 28, a11, F 7, rfl, rfl, (by (try simp only [wr_len]); omega), (by (try simp only [wr_len]); omega), (by (try simp only [wr_len]); omega), by decide, by omega, by first | omega | (have := nx_in (l := A 18) (n := F 5) (a := F 6) (by omega); omega), fun q hq => by rw [rd_wr_n (by omega) (by omega) (by omega)], fun _ _ => rfl, fun _ _ => rfl, ?_, fun z => absurd z (by decide)⟩
          have ehw1 : b1 = 1 := by omega
          rw [ehw1] at hw1
          have hw1n : wD (A 18) (F 5) IFF (0, F 6) = (0, a1) := hw1
          have ehw11 : b11 = 0 := by omega
          rw [ehw11] at hw11
          have hw11n : wD (A 18) (F 5) ALIVE (0, a1) = (1, a11) := hw11
          have e2 : t2 (A 18) (F 5) (0, F 6) = ((1, a11), 2) := by
            unfold t2
            rw [hw1n]
            rw [if_pos rfl]
            unfold fD
            (try dsimp only)
            rw [if_pos (by omega), hw11n]
          have e3 : t3 (A 18) (F 5) (0, F 6) = (1, a11) := by
            unfold t3
            rw [e2]
            rw [if_neg (fun z => absurd (show (1 : Int) = 0 from z.1) (by decide))]
          have e4 : dG (A 18) (F 5) 4 (t3 (A 18) (F 5) (0, F 6)) = ((1, a11), 0) := by rw [e3, dG_f]
          have eS : tS (A 18) (F 5) (0, F 6) = (1, a11) := by
            unfold tS
            rw [if_pos ⟨rfl, by (try dsimp only); omega⟩, e4]
          exact eS
  · refine R_s (P := True) (f' := (10, [some (vR 17), some (vR 20), some (vI x), none], [vI 1], LAY (u (u (u A 26 (A 26)) 27 (A 27)) 28 (A 28)) (u (u F 6 (F 6)) 7 (F 7)), 0, 0)) hc44 1 rfl trivial ?_
    refine R_retz hc44 rfl rfl (Or.inr rfl) ⟨1, A 26, A 27, A 28, F 6, F 7, rfl, rfl, (by (try simp only [wr_len]); omega), (by (try simp only [wr_len]); omega), (by (try simp only [wr_len]); omega), by decide, by omega, by first | omega | (have := nx_in (l := A 18) (n := F 5) (a := F 6) (by omega); omega), fun _ _ => rfl, fun _ _ => rfl, fun _ _ => rfl, ?_, fun _ => ⟨?_, .inl ?_⟩⟩
    · unfold tS
      rw [if_neg (fun z => by have := z.2; (try dsimp only at this); omega)]
      rfl
    all_goals have e9 : tF (A 18) (F 5) (0, F 6) = -1 := by (unfold tF; rw [if_neg (fun z => by have := z.2; (try dsimp only at this); omega)])
    · rw [e9]; omega
    · exact e9

theorem l_rrest0 {A : Nat → List Int} {F : Nat → Int} (hL : LENS A) (h5 : 0 ≤ F 5 ∧ F 5 ≤ 120) (h6 : 0 ≤ F 6 ∧ F 6 ≤ F 5) {x : Int} {i : Nat} (ex : x = (i : Int)) (hi : i < 6) : R 43 (0, L0 43 [vR 17, vR 20, vI x], [], LAY A F, 0, 0) (fun r G => ∃ (c : Int) (q0 q3 : List Int) (a v : Int), r = some (vI c) ∧ G = LAY (u (u A 21 q0) 24 q3) (u (u F 6 a) 7 v) ∧ q0.length = 6 ∧ q3.length = 6 ∧ (c = 0 ∨ c = 1) ∧ 0 ≤ a ∧ a ≤ F 5 ∧ (∀ q : Nat, q ≠ i → rd q0 q = rd (A 21) q) ∧ (∀ q : Nat, q ≠ i → rd q3 q = rd (A 24) q) ∧ (hS (A 18) (F 5) (wD (A 18) (F 5) REST (0, F 6))).1 = (1 - c, a) ∧ rd q0 i = 3 ∧ (c = 1 → rd q3 i = (hS (A 18) (F 5) (wD (A 18) (F 5) REST (0, F 6))).2)) := by
  have d0 : (A 21).length = 6 := hL 21 (by decide)
  have d1 : (A 22).length = 6 := hL 22 (by decide)
  have d2 : (A 23).length = 6 := hL 23 (by decide)
  have d3 : (A 24).length = 6 := hL 24 (by decide)
  have d4 : (A 25).length = 6 := hL 25 (by decide)
  have d5 : (A 26).length = 6 := hL 26 (by decide)
  have d6 : (A 27).length = 6 := hL 27 (by decide)
  have d7 : (A 28).length = 6 := hL 28 (by decide)
  refine R_s (P := True) (f' := (0, [some (vR 17), some (vR 20), some (vI x)], [], LAY (u (u A 21 (A 21)) 24 (A 24)) (u (u F 6 (F 6)) 7 (F 7)), 0, 0)) hc43 0 rfl trivial ?_
  refine R_s (P := (0 ≤ x ∧ x < ((A 21).length : Int)) ∧ True) (f' := (10, [some (vR 17), some (vR 20), some (vI x)], [vS 12, vR 17], LAY (u (u A 24 (A 24)) 21 (wr (A 21) x 3)) (u (u F 6 (F 6)) 7 (F 7)), 0, 0)) hc43 7 rfl ⟨⟨by omega, by omega⟩, trivial⟩ ?_
  refine R_cv hc43 rfl rfl (l_word12 (A := (u (u A 24 (A 24)) 21 (wr (A 21) x 3))) (F := (u (u F 6 (F 6)) 7 (F 7))) (LENS_u (LENS_u hL (by show (A 24).length = (A 24).length; omega)) (by show (wr (A 21) x 3).length = (A 21).length; simp only [wr_len])) h5 ⟨by (show 0 ≤ F 6); omega, by (show F 6 ≤ F 5); omega⟩) (fun r G9 hp9 => ?_)
  obtain ⟨b15, a15, rfl, rfl, hb15, hw15, p15, q15⟩ := hp9
  have p15 : 0 ≤ a15 := p15
  have q15 : a15 ≤ F 5 := q15
  refine R_s (f' := (13, [some (vR 17), some (vR 20), some (vI x)], [vI b15], LAY (u (u A 24 (A 24)) 21 (wr (A 21) x 3)) (u (u F 7 (F 7)) 6 a15), 0, 0)) hc43 0 rfl trivial ?_
  refine R_if (t := 29) hc43 rfl rfl (fun (c1 : b15 = 0) => ?_) (fun (c1 : ¬ (b15 = 0)) => ?_)
  · refine R_s (P := True) (f' := (30, [some (vR 17), some (vR 20), some (vI x)], [vI 0], LAY (u (u A 24 (A 24)) 21 (wr (A 21) x 3)) (u (u F 7 (F 7)) 6 a15), 0, 0)) hc43 1 rfl trivial ?_
    refine R_retz hc43 rfl rfl (Or.inl rfl) ⟨0, wr (A 21) x 3, A 24, a15, F 7, rfl, rfl, (by (try simp only [wr_len]); omega), (by (try simp only [wr_len]); omega), by decide, by omega, by omega, fun q hq => by rw [rd_wr_n (by omega) (by omega) (by omega)], fun _ _ => rfl, ?_⟩
    have ehw15 : b15 = 0 := by omega
    rw [ehw15] at hw15
    have hw15n : wD (A 18) (F 5) REST (0, F 6) = (1, a15) := hw15
    have eS : hS (A 18) (F 5) (wD (A 18) (F 5) REST (0, F 6)) = ((1, a15), 0) := by rw [hw15n, hS_f]
    exact ⟨by rw [eS]; rfl, by rw [← ex]; exact rd_wr_s (by omega) (by omega), fun z => absurd z (by decide)⟩
  · refine R_s (P := True) (f' := (19, [some (vR 17), some (vR 20), some (vI x)], [vI x, vR 20, vR 17], LAY (u (u A 24 (A 24)) 21 (wr (A 21) x 3)) (u (u F 7 (F 7)) 6 a15), 0, 0)) hc43 3 rfl trivial ?_
    refine R_cv hc43 rfl rfl (l_rhouse0 (A := (u (u A 24 (A 24)) 21 (wr (A 21) x 3))) (F := (u (u F 7 (F 7)) 6 a15)) (LENS_u (LENS_u hL (by show (A 24).length = (A 24).length; omega)) (by show (wr (A 21) x 3).length = (A 21).length; simp only [wr_len])) h5 ⟨by (show 0 ≤ a15); omega, by (show a15 ≤ F 5); omega⟩ ex hi) (fun r G9 hp9 => ?_)
    obtain ⟨b16, h3_16, a16, v16, rfl, rfl, l16, hb16, p16, q16, kp16, h16, hw16, hv16⟩ := hp9
    have q16 : a16 ≤ F 5 := q16
    have kp16 : ∀ q : Nat, q ≠ i → rd h3_16 q = rd (A 24) q := kp16
    refine R_s (f' := (22, [some (vR 17), some (vR 20), some (vI x)], [vI b16], LAY (u (u A 21 (wr (A 21) x 3)) 24 h3_16) (u (u F 6 a16) 7 v16), 0, 0)) hc43 0 rfl trivial ?_
    refine R_if (t := 29) hc43 rfl rfl (fun (c2 : b16 = 0) => ?_) (fun (c2 : ¬ (b16 = 0)) => ?_)
    · refine R_s (P := True) (f' := (30, [some (vR 17), some (vR 20), some (vI x)], [vI 0], LAY (u (u A 21 (wr (A 21) x 3)) 24 h3_16) (u (u F 6 a16) 7 v16), 0, 0)) hc43 1 rfl trivial ?_
      refine R_retz hc43 rfl rfl (Or.inl rfl) ⟨0, wr (A 21) x 3, h3_16, a16, v16, rfl, rfl, (by (try simp only [wr_len]); omega), (by (try simp only [wr_len]); omega), by decide, by omega, by omega, fun q hq => by rw [rd_wr_n (by omega) (by omega) (by omega)], fun q hq => by rw [kp16 q hq], ?_⟩
      have ehw15 : b15 = 1 := by omega
      rw [ehw15] at hw15
      have hw15n : wD (A 18) (F 5) REST (0, F 6) = (0, a15) := hw15
      have ehw16 : b16 = 0 := by omega
      rw [ehw16] at hw16
      have hw16n : hS (A 18) (F 5) (0, a15) = ((1, a16), h16) := hw16
      have eS : hS (A 18) (F 5) (wD (A 18) (F 5) REST (0, F 6)) = ((1, a16), h16) := by rw [hw15n, hw16n]
      exact ⟨by rw [eS]; rfl, by rw [← ex]; exact rd_wr_s (by omega) (by omega), fun z => absurd z (by decide)⟩
    · refine R_s (P := True) (f' := (30, [some (vR 17), some (vR 20), some (vI x)], [vI 1], LAY (u (u A 21 (wr (A 21) x 3)) 24 h3_16) (u (u F 6 a16) 7 v16), 0, 0)) hc43 2 rfl trivial ?_
      refine R_retz hc43 rfl rfl (Or.inr rfl) ⟨1, wr (A 21) x 3, h3_16, a16, v16, rfl, rfl, (by (try simp only [wr_len]); omega), (by (try simp only [wr_len]); omega), by decide, by omega, by omega, fun q hq => by rw [rd_wr_n (by omega) (by omega) (by omega)], fun q hq => by rw [kp16 q hq], ?_⟩
      have ehw15 : b15 = 1 := by omega
      rw [ehw15] at hw15
      have hw15n : wD (A 18) (F 5) REST (0, F 6) = (0, a15) := hw15
      have ehw16 : b16 = 1 := by omega
      rw [ehw16] at hw16
      have hw16n : hS (A 18) (F 5) (0, a15) = ((0, a16), h16) := hw16
      have eS : hS (A 18) (F 5) (wD (A 18) (F 5) REST (0, F 6)) = ((0, a16), h16) := by rw [hw15n, hw16n]
      exact ⟨by rw [eS]; rfl, by rw [← ex]; exact rd_wr_s (by omega) (by omega), fun _ => by rw [eS]; exact hv16 (by omega)⟩

theorem l_rhouse1 {A : Nat → List Int} {F : Nat → Int} (hL : LENS A) (h5 : 0 ≤ F 5 ∧ F 5 ≤ 120) (h6 : 0 ≤ F 6 ∧ F 6 ≤ F 5) {x : Int} {i : Nat} (ex : x = (i : Int)) (hi : i < 6) : R 46 (0, L0 46 [vR 17, vR 29, vI x], [], LAY A F, 0, 0) (fun r G => ∃ (c : Int) (q3 : List Int) (a v : Int), r = some (vI c) ∧ G = LAY (u A 33 q3) (u (u F 6 a) 7 v) ∧ q3.length = 6 ∧ (c = 0 ∨ c = 1) ∧ 0 ≤ a ∧ a ≤ F 5 ∧ (∀ q : Nat, q ≠ i → rd q3 q = rd (A 33) q) ∧ ∃ h, hS (A 18) (F 5) (0, F 6) = ((1 - c, a), h) ∧ (c = 1 → rd q3 i = h)) := by
  have d0 : (A 30).length = 6 := hL 30 (by decide)
  have d1 : (A 31).length = 6 := hL 31 (by decide)
  have d2 : (A 32).length = 6 := hL 32 (by decide)
  have d3 : (A 33).length = 6 := hL 33 (by decide)
  have d4 : (A 34).length = 6 := hL 34 (by decide)
  have d5 : (A 35).length = 6 := hL 35 (by decide)
  have d6 : (A 36).length = 6 := hL 36 (by decide)
  have d7 : (A 37).length = 6 := hL 37 (by decide)
  refine R_s (P := True) (f' := (0, [some (vR 17), some (vR 29), some (vI x), none], [], LAY (u A 33 (A 33)) (u (u F 6 (F 6)) 7 (F 7)), 0, 0)) hc46 0 rfl trivial ?_
  refine R_s (P := True) (f' := (1, [some (vR 17), some (vR 29), some (vI x), none], [vR 17], LAY (u A 33 (A 33)) (u (u F 6 (F 6)) 7 (F 7)), 0, 0)) hc46 1 rfl trivial ?_
  refine R_cv hc46 rfl rfl (l_next (A := (u A 33 (A 33))) (F := (u (u F 6 (F 6)) 7 (F 7))) (LENS_u hL (by show (A 33).length = (A 33).length; omega)) h5 ⟨by (show 0 ≤ F 6); omega, by (show F 6 ≤ F 5); omega⟩) (fun r G9 hp9 => ?_)
  obtain ⟨e1, rfl⟩ := hp9
  have e2 : r = some (vI (nx (A 18) (F 5) (F 6))) := e1
  clear e1
  subst e2
  refine R_s (f' := (4, [some (vR 17), some (vR 29), some (vI x), none], [vI (nx (A 18) (F 5) (F 6))], LAY (u A 33 (A 33)) (u (u F 6 (F 6)) 7 (F 7)), 0, 0)) hc46 0 rfl trivial ?_
  refine R_s (P := True) (f' := (8, [some (vR 17), some (vR 29), some (vI x), some (vI (nx (A 18) (F 5) (F 6)))], [vI 97, vI (nx (A 18) (F 5) (F 6))], LAY (u A 33 (A 33)) (u (u F 6 (F 6)) 7 (F 7)), 0, 0)) hc46 3 rfl trivial ?_
  refine R_ic (t := 17) hc46 rfl rfl (fun (c1 : nx (A 18) (F 5) (F 6) < 97) => ?_) (fun (c1 : ¬ (nx (A 18) (F 5) (F 6) < 97)) => ?_)
  · refine R_s (P := True) (f' := (18, [some (vR 17), some (vR 29), some (vI x), some (vI (nx (A 18) (F 5) (F 6)))], [vI 0], LAY (u A 33 (A 33)) (u (u F 6 (F 6)) 7 (F 7)), 0, 0)) hc46 1 rfl trivial ?_
    refine R_retz hc46 rfl rfl (Or.inl rfl) ⟨0, A 33, F 6, F 7, rfl, rfl, (by (try simp only [wr_len]); omega), by decide, by omega, by omega, fun _ _ => rfl, 0, ?_, fun z => absurd z (by decide)⟩
    unfold hS
    (try dsimp only)
    rw [if_neg (fun z => by omega)]
    rfl
  · refine R_s (P := True) (f' := (14, [some (vR 17), some (vR 29), some (vI x), some (vI (nx (A 18) (F 5) (F 6)))], [vI 105, vI (nx (A 18) (F 5) (F 6))], LAY (u A 33 (A 33)) (u (u F 6 (F 6)) 7 (F 7)), 0, 0)) hc46 2 rfl trivial ?_
    refine R_ic (t := 19) hc46 rfl rfl (fun (c2 : nx (A 18) (F 5) (F 6) < 105) => ?_) (fun (c2 : ¬ (nx (A 18) (F 5) (F 6) < 105)) => ?_)
    · refine R_s (P := inI ((nx (A 18) (F 5) (F 6)) - 97) ∧ (0 ≤ x ∧ x < ((A 33).length : Int)) ∧ inI ((F 6) + 1) ∧ True) (f' := (40, [some (vR 17), some (vR 29), some (vI x), some (vI (nx (A 18) (F 5) (F 6)))], [vI 1], LAY (u A 33 (wr (A 33) x ((nx (A 18) (F 5) (F 6)) - 97))) (u (u F 7 (F 7)) 6 ((F 6) + 1)), 0, 0)) hc46 14 rfl ⟨⟨by omega, by omega⟩, ⟨by omega, by omega⟩, ⟨by omega, by omega⟩, trivial⟩ ?_
      refine R_retz hc46 rfl rfl (Or.inr rfl) ⟨1, wr (A 33) x ((nx (A 18) (F 5) (F 6)) - 97), (F 6) + 1, F 7, rfl, rfl, (by (try simp only [wr_len]); omega), by decide, by omega, by have := nx_in (l := A 18) (n := F 5) (a := F 6) (by omega); omega, fun q hq => by rw [rd_wr_n (by omega) (by omega) (by omega)], nx (A 18) (F 5) (F 6) - 97, ?_, fun _ => by rw [← ex]; exact rd_wr_s (by omega) (by omega)⟩
      unfold hS
      (try dsimp only)
      rw [if_pos ⟨rfl, by omega, by omega⟩]
      rfl
    · refine R_s (P := True) (f' := (18, [some (vR 17), some (vR 29), some (vI x), some (vI (nx (A 18) (F 5) (F 6)))], [vI 0], LAY (u A 33 (A 33)) (u (u F 6 (F 6)) 7 (F 7)), 0, 0)) hc46 1 rfl trivial ?_
      refine R_retz hc46 rfl rfl (Or.inl rfl) ⟨0, A 33, F 6, F 7, rfl, rfl, (by (try simp only [wr_len]); omega), by decide, by omega, by omega, fun _ _ => rfl, 0, ?_, fun z => absurd z (by decide)⟩
      unfold hS
      (try dsimp only)
      rw [if_neg (fun z => by omega)]
      rfl

theorem l_rtest1 {A : Nat → List Int} {F : Nat → Int} (hL : LENS A) (h5 : 0 ≤ F 5 ∧ F 5 ≤ 120) (h6 : 0 ≤ F 6 ∧ F 6 ≤ F 5) {x : Int} {i : Nat} (ex : x = (i : Int)) (hi : i < 6) (hf0 : rd (A 35) i = 0) : R 44 (0, L0 44 [vR 17, vR 29, vI x], [], LAY A F, 0, 0) (fun r G => ∃ (c : Int) (q5 q6 q7 : List Int) (a v : Int), r = some (vI c) ∧ G = LAY (u (u (u A 35 q5) 36 q6) 37 q7) (u (u F 6 a) 7 v) ∧ q5.length = 6 ∧ q6.length = 6 ∧ q7.length = 6 ∧ (c = 0 ∨ c = 1) ∧ 0 ≤ a ∧ a ≤ F 5 ∧ (∀ q : Nat, q ≠ i → rd q5 q = rd (A 35) q) ∧ (∀ q : Nat, q ≠ i → rd q6 q = rd (A 36) q) ∧ (∀ q : Nat, q ≠ i → rd q7 q = rd (A 37) q) ∧ tS (A 18) (F 5) (0, F 6) = (1 - c, a) ∧ (c = 1 → rd q5 i = tF (A 18) (F 5) (0, F 6) + 1 ∧ (tF (A 18) (F 5) (0, F 6) = -1 ∨ (rd q6 i = tG (A 18) (F 5) (0, F 6) ∧ rd q7 i = tH (A 18) (F 5) (0, F 6))))) := by
  have d0 : (A 30).length = 6 := hL 30 (by decide)
  have d1 : (A 31).length = 6 := hL 31 (by decide)
  have d2 : (A 32).length = 6 := hL 32 (by decide)
  have d3 : (A 33).length = 6 := hL 33 (by decide)
  have d4 : (A 34).length = 6 := hL 34 (by decide)
  have d5 : (A 35).length = 6 := hL 35 (by decide)
  have d6 : (A 36).length = 6 := hL 36 (by decide)
  have d7 : (A 37).length = 6 := hL 37 (by decide)
  refine R_s (P := True) (f' := (0, [some (vR 17), some (vR 29), some (vI x), none], [], LAY (u (u (u A 35 (A 35)) 36 (A 36)) 37 (A 37)) (u (u F 6 (F 6)) 7 (F 7)), 0, 0)) hc44 0 rfl trivial ?_
  refine R_s (P := True) (f' := (1, [some (vR 17), some (vR 29), some (vI x), none], [vR 17], LAY (u (u (u A 35 (A 35)) 36 (A 36)) 37 (A 37)) (u (u F 6 (F 6)) 7 (F 7)), 0, 0)) hc44 1 rfl trivial ?_
  refine R_cv hc44 rfl rfl (l_next (A := (u (u (u A 35 (A 35)) 36 (A 36)) 37 (A 37))) (F := (u (u F 6 (F 6)) 7 (F 7))) (LENS_u (LENS_u (LENS_u hL (by show (A 35).length = (A 35).length; omega)) (by show (A 36).length = (A 36).length; omega)) (by show (A 37).length = (A 37).length; omega)) h5 ⟨by (show 0 ≤ F 6); omega, by (show F 6 ≤ F 5); omega⟩) (fun r G9 hp9 => ?_)
  obtain ⟨e1, rfl⟩ := hp9
  have e2 : r = some (vI (nx (A 18) (F 5) (F 6))) := e1
  clear e1
  subst e2
  refine R_s (f' := (4, [some (vR 17), some (vR 29), some (vI x), none], [vI (nx (A 18) (F 5) (F 6))], LAY (u (u (u A 35 (A 35)) 36 (A 36)) 37 (A 37)) (u (u F 6 (F 6)) 7 (F 7)), 0, 0)) hc44 0 rfl trivial ?_
  refine R_s (P := True) (f' := (6, [some (vR 17), some (vR 29), some (vI x), none], [vI 32, vI (nx (A 18) (F 5) (F 6))], LAY (u (u (u A 35 (A 35)) 36 (A 36)) 37 (A 37)) (u (u F 6 (F 6)) 7 (F 7)), 0, 0)) hc44 1 rfl trivial ?_
  refine R_ic (t := 11) hc44 rfl rfl (fun (c1 : nx (A 18) (F 5) (F 6) = 32) => ?_) (fun (c1 : ¬ (nx (A 18) (F 5) (F 6) = 32)) => ?_)
  · refine R_s (P := True) (f' := (14, [some (vR 17), some (vR 29), some (vI x), none], [vS 2, vR 17], LAY (u (u (u A 35 (A 35)) 36 (A 36)) 37 (A 37)) (u (u F 6 (F 6)) 7 (F 7)), 0, 0)) hc44 2 rfl trivial ?_
    refine R_cv hc44 rfl rfl (l_word2 (A := (u (u (u A 35 (A 35)) 36 (A 36)) 37 (A 37))) (F := (u (u F 6 (F 6)) 7 (F 7))) (LENS_u (LENS_u (LENS_u hL (by show (A 35).length = (A 35).length; omega)) (by show (A 36).length = (A 36).length; omega)) (by show (A 37).length = (A 37).length; omega)) h5 ⟨by (show 0 ≤ F 6); omega, by (show F 6 ≤ F 5); omega⟩) (fun r G9 hp9 => ?_)
    obtain ⟨b17, a17, rfl, rfl, hb17, hw17, p17, q17⟩ := hp9
    have p17 : 0 ≤ a17 := p17
    have q17 : a17 ≤ F 5 := q17
    refine R_s (f' := (17, [some (vR 17), some (vR 29), some (vI x), none], [vI b17], LAY (u (u (u A 35 (A 35)) 36 (A 36)) 37 (A 37)) (u (u F 7 (F 7)) 6 a17), 0, 0)) hc44 0 rfl trivial ?_
    refine R_if (t := 29) hc44 rfl rfl (fun (c2 : b17 = 0) => ?_) (fun (c2 : ¬ (b17 = 0)) => ?_)
    · refine R_s (P := True) (f' := (30, [some (vR 17), some (vR 29), some (vI x), none], [vI 0], LAY (u (u (u A 35 (A 35)) 36 (A 36)) 37 (A 37)) (u (u F 7 (F 7)) 6 a17), 0, 0)) hc44 1 rfl trivial ?_
      refine R_retz hc44 rfl rfl (Or.inl rfl) ⟨0, A 35, A 36, A 37, a17, F 7, rfl, rfl, (by (try simp only [wr_len]); omega), (by (try simp only [wr_len]); omega), (by (try simp only [wr_len]); omega), by decide, by omega, by first | omega | (have := nx_in (l := A 18) (n := F 5) (a := F 6) (by omega); omega), fun _ _ => rfl, fun _ _ => rfl, fun _ _ => rfl, ?_, fun z => absurd z (by decide)⟩
      have ehw17 : b17 = 0 := by omega
      rw [ehw17] at hw17
      have hw17n : wD (A 18) (F 5) IFF (0, F 6) = (1, a17) := hw17
      have e2 : t2 (A 18) (F 5) (0, F 6) = ((1, a17), 0) := by
        unfold t2
        rw [hw17n]
        rw [if_neg (show ¬ (1 : Int) = 0 by decide)]
      have e3 : t3 (A 18) (F 5) (0, F 6) = (1, a17) := by
        unfold t3
        rw [e2]
        rw [if_neg (fun z => absurd (show (1 : Int) = 0 from z.1) (by decide))]
      have e4 : dG (A 18) (F 5) 4 (t3 (A 18) (F 5) (0, F 6)) = ((1, a17), 0) := by rw [e3, dG_f]
      have eS : tS (A 18) (F 5) (0, F 6) = (1, a17) := by
        unfold tS
        rw [if_pos ⟨rfl, by (try dsimp only); omega⟩, e4]
      exact eS
    · refine R_s (P := True) (f' := (23, [some (vR 17), some (vR 29), some (vI x), none], [vI x, vR 29, vR 17], LAY (u (u (u A 35 (A 35)) 36 (A 36)) 37 (A 37)) (u (u F 7 (F 7)) 6 a17), 0, 0)) hc44 3 rfl trivial ?_
      refine R_cv hc44 rfl rfl ?_ (fun r G h => h)
      refine R_s (P := True) (f' := (1, [some (vR 17), some (vR 29), some (vI x), none], [vR 17], LAY (u (u (u A 35 (A 35)) 36 (A 36)) 37 (A 37)) (u (u F 7 (F 7)) 6 a17), 0, 0)) hc45 1 rfl trivial ?_
      refine R_cv hc45 rfl rfl (l_next (A := (u (u (u A 35 (A 35)) 36 (A 36)) 37 (A 37))) (F := (u (u F 7 (F 7)) 6 a17)) (LENS_u (LENS_u (LENS_u hL (by show (A 35).length = (A 35).length; omega)) (by show (A 36).length = (A 36).length; omega)) (by show (A 37).length = (A 37).length; omega)) h5 ⟨by (show 0 ≤ a17); omega, by (show a17 ≤ F 5); omega⟩) (fun r G9 hp9 => ?_)
      obtain ⟨e1, rfl⟩ := hp9
      have e2 : r = some (vI (nx (A 18) (F 5) (a17))) := e1
      clear e1
      subst e2
      refine R_s (f' := (4, [some (vR 17), some (vR 29), some (vI x), none], [vI (nx (A 18) (F 5) (a17))], LAY (u (u (u A 35 (A 35)) 36 (A 36)) 37 (A 37)) (u (u F 7 (F 7)) 6 a17), 0, 0)) hc45 0 rfl trivial ?_
      refine R_s (P := True) (f' := (6, [some (vR 17), some (vR 29), some (vI x), none], [vI 97, vI (nx (A 18) (F 5) (a17))], LAY (u (u (u A 35 (A 35)) 36 (A 36)) 37 (A 37)) (u (u F 7 (F 7)) 6 a17), 0, 0)) hc45 1 rfl trivial ?_
      refine R_ic (t := 23) hc45 rfl rfl (fun (c3 : ¬ nx (A 18) (F 5) (a17) = 97) => ?_) (fun (c3 : ¬ (¬ nx (A 18) (F 5) (a17) = 97)) => ?_)
      · refine R_s (P := True) (f' := (26, [some (vR 17), some (vR 29), some (vI x), none], [vS 4, vR 17], LAY (u (u (u A 35 (A 35)) 36 (A 36)) 37 (A 37)) (u (u F 7 (F 7)) 6 a17), 0, 0)) hc45 2 rfl trivial ?_
        refine R_cv hc45 rfl rfl (l_word4 (A := (u (u (u A 35 (A 35)) 36 (A 36)) 37 (A 37))) (F := (u (u F 7 (F 7)) 6 a17)) (LENS_u (LENS_u (LENS_u hL (by show (A 35).length = (A 35).length; omega)) (by show (A 36).length = (A 36).length; omega)) (by show (A 37).length = (A 37).length; omega)) h5 ⟨by (show 0 ≤ a17); omega, by (show a17 ≤ F 5); omega⟩) (fun r G9 hp9 => ?_)
        obtain ⟨b18, a18, rfl, rfl, hb18, hw18, p18, q18⟩ := hp9
        have p18 : 0 ≤ a18 := p18
        have q18 : a18 ≤ F 5 := q18
        refine R_s (f' := (29, [some (vR 17), some (vR 29), some (vI x), none], [vI b18], LAY (u (u (u A 35 (A 35)) 36 (A 36)) 37 (A 37)) (u (u F 7 (F 7)) 6 a18), 0, 0)) hc45 0 rfl trivial ?_
        refine R_if (t := 34) hc45 rfl rfl (fun (c4 : ¬ b18 = 0) => ?_) (fun (c4 : ¬ (¬ b18 = 0)) => ?_)
        · refine R_s (P := True) (f' := (35, [some (vR 17), some (vR 29), some (vI x), none], [vR 17], LAY (u (u (u A 35 (A 35)) 36 (A 36)) 37 (A 37)) (u (u F 7 (F 7)) 6 a18), 0, 0)) hc45 1 rfl trivial ?_
          refine R_cv hc45 rfl rfl (l_next (A := (u (u (u A 35 (A 35)) 36 (A 36)) 37 (A 37))) (F := (u (u F 7 (F 7)) 6 a18)) (LENS_u (LENS_u (LENS_u hL (by show (A 35).length = (A 35).length; omega)) (by show (A 36).length = (A 36).length; omega)) (by show (A 37).length = (A 37).length; omega)) h5 ⟨by (show 0 ≤ a18); omega, by (show a18 ≤ F 5); omega⟩) (fun r G9 hp9 => ?_)
          obtain ⟨e1, rfl⟩ := hp9
          have e2 : r = some (vI (nx (A 18) (F 5) (a18))) := e1
          clear e1
          subst e2
          refine R_s (f' := (38, [some (vR 17), some (vR 29), some (vI x), none], [vI (nx (A 18) (F 5) (a18))], LAY (u (u (u A 35 (A 35)) 36 (A 36)) 37 (A 37)) (u (u F 7 (F 7)) 6 a18), 0, 0)) hc45 0 rfl trivial ?_
          refine R_s (P := True) (f' := (40, [some (vR 17), some (vR 29), some (vI x), none], [vI 101, vI (nx (A 18) (F 5) (a18))], LAY (u (u (u A 35 (A 35)) 36 (A 36)) 37 (A 37)) (u (u F 7 (F 7)) 6 a18), 0, 0)) hc45 1 rfl trivial ?_
          refine R_ic (t := 47) hc45 rfl rfl (fun (c5 : ¬ nx (A 18) (F 5) (a18) = 101) => ?_) (fun (c5 : ¬ (¬ nx (A 18) (F 5) (a18) = 101)) => ?_)
          · refine R_s (P := True) (f' := (55, [some (vR 17), some (vR 29), some (vI x), some (vI 0)], [vI 0, vI x, vR 35], LAY (u (u (u A 35 (A 35)) 36 (A 36)) 37 (A 37)) (u (u F 7 (F 7)) 6 a18), 0, 0)) hc45 6 rfl trivial ?_
            refine R_if (t := 62) hc45 rfl rfl (fun (_ : 0 = 0) => ?_) (fun (z : ¬ (0 = 0)) => absurd (by decide) z)
            refine R_s (P := (0 ≤ x ∧ x < ((A 35).length : Int)) ∧ True) (f' := (66, [some (vR 17), some (vR 29), some (vI x), some (vI 0)], [vI 0, vR 17], LAY (u (u (u A 36 (A 36)) 37 (A 37)) 35 (wr (A 35) x 2)) (u (u F 7 (F 7)) 6 a18), 0, 0)) hc45 4 rfl ⟨⟨by omega, by omega⟩, trivial⟩ ?_
            refine R_if (t := 74) hc45 rfl rfl (fun (_ : 0 = 0) => ?_) (fun (z : ¬ (0 = 0)) => absurd (by decide) z)
            refine R_s (P := True) (f' := (76, [some (vR 17), some (vR 29), some (vI x), some (vI 0)], [vS 6, vR 17], LAY (u (u (u A 36 (A 36)) 37 (A 37)) 35 (wr (A 35) x 2)) (u (u F 7 (F 7)) 6 a18), 0, 0)) hc45 1 rfl trivial ?_
            refine R_cv hc45 rfl rfl (l_word6 (A := (u (u (u A 36 (A 36)) 37 (A 37)) 35 (wr (A 35) x 2))) (F := (u (u F 7 (F 7)) 6 a18)) (LENS_u (LENS_u (LENS_u hL (by show (A 36).length = (A 36).length; omega)) (by show (A 37).length = (A 37).length; omega)) (by show (wr (A 35) x 2).length = (A 35).length; simp only [wr_len])) h5 ⟨by (show 0 ≤ a18); omega, by (show a18 ≤ F 5); omega⟩) (fun r G9 hp9 => ?_)
            obtain ⟨b19, a19, rfl, rfl, hb19, hw19, p19, q19⟩ := hp9
            have p19 : 0 ≤ a19 := p19
            have q19 : a19 ≤ F 5 := q19
            refine R_s (f' := (79, [some (vR 17), some (vR 29), some (vI x), some (vI 0)], [vI b19], LAY (u (u (u A 36 (A 36)) 37 (A 37)) 35 (wr (A 35) x 2)) (u (u F 7 (F 7)) 6 a19), 0, 0)) hc45 0 rfl trivial ?_
            refine R_retz hc45 rfl rfl (by omega) ?_
            refine R_s (f' := (26, [some (vR 17), some (vR 29), some (vI x), none], [vI b19], LAY (u (u (u A 36 (A 36)) 37 (A 37)) 35 (wr (A 35) x 2)) (u (u F 7 (F 7)) 6 a19), 0, 0)) hc44 0 rfl trivial ?_
            refine R_if (t := 31) hc44 rfl rfl (fun (c8 : ¬ b19 = 0) => ?_) (fun (c8 : ¬ (¬ b19 = 0)) => ?_)
            · refine R_s (P := True) (f' := (32, [some (vR 17), some (vR 29), some (vI x), none], [vR 17], LAY (u (u (u A 36 (A 36)) 37 (A 37)) 35 (wr (A 35) x 2)) (u (u F 7 (F 7)) 6 a19), 0, 0)) hc44 1 rfl trivial ?_
              refine R_cv hc44 rfl rfl (l_next (A := (u (u (u A 36 (A 36)) 37 (A 37)) 35 (wr (A 35) x 2))) (F := (u (u F 7 (F 7)) 6 a19)) (LENS_u (LENS_u (LENS_u hL (by show (A 36).length = (A 36).length; omega)) (by show (A 37).length = (A 37).length; omega)) (by show (wr (A 35) x 2).length = (A 35).length; simp only [wr_len])) h5 ⟨by (show 0 ≤ a19); omega, by (show a19 ≤ F 5); omega⟩) (fun r G9 hp9 => ?_)
              obtain ⟨e1, rfl⟩ := hp9
              have e2 : r = some (vI (nx (A 18) (F 5) (a19))) := e1
              clear e1
              subst e2
              refine R_s (f' := (35, [some (vR 17), some (vR 29), some (vI x), none], [vI (nx (A 18) (F 5) (a19))], LAY (u (u (u A 36 (A 36)) 37 (A 37)) 35 (wr (A 35) x 2)) (u (u F 7 (F 7)) 6 a19), 0, 0)) hc44 0 rfl trivial ?_
              refine R_s (P := True) (f' := (39, [some (vR 17), some (vR 29), some (vI x), some (vI (nx (A 18) (F 5) (a19)))], [vI 61, vI (nx (A 18) (F 5) (a19))], LAY (u (u (u A 36 (A 36)) 37 (A 37)) 35 (wr (A 35) x 2)) (u (u F 7 (F 7)) 6 a19), 0, 0)) hc44 3 rfl trivial ?_
              refine R_ic (t := 56) hc44 rfl rfl (fun (c9 : nx (A 18) (F 5) (a19) = 61) => ?_) (fun (c9 : ¬ (nx (A 18) (F 5) (a19) = 61)) => ?_)
              · refine R_s (P := (0 ≤ x ∧ x < ((A 36).length : Int)) ∧ inI (a19 + 1) ∧ True) (f' := (75, [some (vR 17), some (vR 29), some (vI x), some (vI (nx (A 18) (F 5) (a19)))], [vI 4, vR 17], LAY (u (u (u A 37 (A 37)) 35 (wr (A 35) x 2)) 36 (wr (A 36) x (nx (A 18) (F 5) (a19)))) (u (u F 7 (F 7)) 6 (a19 + 1)), 0, 0)) hc44 13 rfl ⟨⟨by omega, by omega⟩, ⟨by omega, by omega⟩, trivial⟩ ?_
                refine R_cv hc44 rfl rfl (l_numb (A := (u (u (u A 37 (A 37)) 35 (wr (A 35) x 2)) 36 (wr (A 36) x (nx (A 18) (F 5) (a19))))) (F := (u (u F 7 (F 7)) 6 (a19 + 1))) (LENS_u (LENS_u (LENS_u hL (by show (A 37).length = (A 37).length; omega)) (by show (wr (A 35) x 2).length = (A 35).length; simp only [wr_len])) (by show (wr (A 36) x (nx (A 18) (F 5) (a19))).length = (A 36).length; simp only [wr_len])) h5 ⟨by (show 0 ≤ a19 + 1); omega, by (have := nx_in (l := A 18) (n := F 5) (a := a19) (by omega)); (show a19 + 1 ≤ F 5); omega⟩ (kk := 4) (by decide) rfl) (fun r G9 hp9 => ?_)
                obtain ⟨b20, a20, v20, rfl, rfl, hb20, hw20, p20, q20, w20⟩ := hp9
                have p20 : 0 ≤ a20 := p20
                have q20 : a20 ≤ F 5 := q20
                refine R_s (f' := (78, [some (vR 17), some (vR 29), some (vI x), some (vI (nx (A 18) (F 5) (a19)))], [vI b20], LAY (u (u (u A 37 (A 37)) 35 (wr (A 35) x 2)) 36 (wr (A 36) x (nx (A 18) (F 5) (a19)))) (u (u F 6 a20) 7 v20), 0, 0)) hc44 0 rfl trivial ?_
                refine R_if (t := 83) hc44 rfl rfl (fun (c10 : ¬ b20 = 0) => ?_) (fun (c10 : ¬ (¬ b20 = 0)) => ?_)
                · refine R_s (P := (0 ≤ x ∧ x < ((A 37).length : Int)) ∧ True) (f' := (94, [some (vR 17), some (vR 29), some (vI x), some (vI (nx (A 18) (F 5) (a19)))], [vI 1], LAY (u (u (u A 35 (wr (A 35) x 2)) 36 (wr (A 36) x (nx (A 18) (F 5) (a19)))) 37 (wr (A 37) x v20)) (u (u F 6 a20) 7 v20), 0, 0)) hc44 7 rfl ⟨⟨by omega, by omega⟩, trivial⟩ ?_
                  refine R_retz hc44 rfl rfl (Or.inr rfl) ⟨1, wr (A 35) x 2, wr (A 36) x (nx (A 18) (F 5) (a19)), wr (A 37) x v20, a20, v20, rfl, rfl, (by (try simp only [wr_len]); omega), (by (try simp only [wr_len]); omega), (by (try simp only [wr_len]); omega), by decide, by omega, by first | omega | (have := nx_in (l := A 18) (n := F 5) (a := F 6) (by omega); omega), fun q hq => by rw [rd_wr_n (by omega) (by omega) (by omega)], fun q hq => by rw [rd_wr_n (by omega) (by omega) (by omega)], fun q hq => by rw [rd_wr_n (by omega) (by omega) (by omega)], ?_⟩
                  have ehw17 : b17 = 1 := by omega
                  rw [ehw17] at hw17
                  have hw17n : wD (A 18) (F 5) IFF (0, F 6) = (0, a17) := hw17
                  have ehw18 : b18 = 1 := by omega
                  rw [ehw18] at hw18
                  have hw18n : wD (A 18) (F 5) YY (0, a17) = (0, a18) := hw18
                  have ehw19 : b19 = 1 := by omega
                  rw [ehw19] at hw19
                  have hw19n : wD (A 18) (F 5) IELD (0, a18) = (0, a19) := hw19
                  have ehw20 : b20 = 1 := by omega
                  rw [ehw20] at hw20
                  have hw20n : dG (A 18) (F 5) 4 (0, a19 + 1) = ((0, a20), v20) := hw20
                  have hYe : eE (A 18) (F 5) 121 (0, a17) = (0, a18) := hw18n
                  have e2 : t2 (A 18) (F 5) (0, F 6) = ((0, a19), 1) := by
                    unfold t2
                    rw [hw17n]
                    rw [if_pos rfl]
                    unfold fD
                    (try dsimp only)
                    rw [if_neg (by omega), hYe]
                    rw [if_neg (fun z => by have := z.2; (try dsimp only at this); omega), hw19n]
                  have e3 : t3 (A 18) (F 5) (0, F 6) = (0, a19 + 1) := by
                    unfold t3
                    rw [e2]
                    rw [if_pos ⟨rfl, by (try dsimp only); omega⟩]
                  have e4 : dG (A 18) (F 5) 4 (t3 (A 18) (F 5) (0, F 6)) = ((0, a20), v20) := by
                    rw [e3]
                    exact hw20n
                  have eS : tS (A 18) (F 5) (0, F 6) = (0, a20) := by
                    unfold tS
                    rw [if_pos ⟨rfl, by (try dsimp only); omega⟩, e4]
                  have eF : tF (A 18) (F 5) (0, F 6) = 1 := by
                    unfold tF
                    rw [if_pos ⟨rfl, by (try dsimp only); omega⟩, e2]
                  have eG : tG (A 18) (F 5) (0, F 6) = nx (A 18) (F 5) (a19) := by
                    unfold tG
                    rw [e2]
                  have eH : tH (A 18) (F 5) (0, F 6) = v20 := by
                    unfold tH
                    rw [e4]
                  refine ⟨eS, fun _ => ⟨?_, .inr ⟨?_, ?_⟩⟩⟩
                  · rw [eF, ← ex, rd_wr_s (by omega) (by (try simp only [wr_len]); omega)]
                    decide
                  · rw [eG, ← ex, rd_wr_s (by omega) (by (try simp only [wr_len]); omega)]
                  · rw [eH, ← ex, rd_wr_s (by omega) (by (try simp only [wr_len]); omega)]
                · refine R_s (P := True) (f' := (82, [some (vR 17), some (vR 29), some (vI x), some (vI (nx (A 18) (F 5) (a19)))], [vI 0], LAY (u (u (u A 37 (A 37)) 35 (wr (A 35) x 2)) 36 (wr (A 36) x (nx (A 18) (F 5) (a19)))) (u (u F 6 a20) 7 v20), 0, 0)) hc44 1 rfl trivial ?_
                  refine R_retz hc44 rfl rfl (Or.inl rfl) ⟨0, wr (A 35) x 2, wr (A 36) x (nx (A 18) (F 5) (a19)), A 37, a20, v20, rfl, rfl, (by (try simp only [wr_len]); omega), (by (try simp only [wr_len]); omega), (by (try simp only [wr_len]); omega), by decide, by omega, by first | omega | (have := nx_in (l := A 18) (n := F 5) (a := F 6) (by omega); omega), fun q hq => by rw [rd_wr_n (by omega) (by omega) (by omega)], fun q hq => by rw [rd_wr_n (by omega) (by omega) (by omega)], fun _ _ => rfl, ?_, fun z => absurd z (by decide)⟩
                  have ehw17 : b17 = 1 := by omega
                  rw [ehw17] at hw17
                  have hw17n : wD (A 18) (F 5) IFF (0, F 6) = (0, a17) := hw17
                  have ehw18 : b18 = 1 := by omega
                  rw [ehw18] at hw18
                  have hw18n : wD (A 18) (F 5) YY (0, a17) = (0, a18) := hw18
                  have ehw19 : b19 = 1 := by omega
                  rw [ehw19] at hw19
                  have hw19n : wD (A 18) (F 5) IELD (0, a18) = (0, a19) := hw19
                  have ehw20 : b20 = 0 := by omega
                  rw [ehw20] at hw20
                  have hw20n : dG (A 18) (F 5) 4 (0, a19 + 1) = ((1, a20), v20) := hw20
                  have hYe : eE (A 18) (F 5) 121 (0, a17) = (0, a18) := hw18n
                  have e2 : t2 (A 18) (F 5) (0, F 6) = ((0, a19), 1) := by
                    unfold t2
                    rw [hw17n]
                    rw [if_pos rfl]
                    unfold fD
                    (try dsimp only)
                    rw [if_neg (by omega), hYe]
                    rw [if_neg (fun z => by have := z.2; (try dsimp only at this); omega), hw19n]
                  have e3 : t3 (A 18) (F 5) (0, F 6) = (0, a19 + 1) := by
                    unfold t3
                    rw [e2]
                    rw [if_pos ⟨rfl, by (try dsimp only); omega⟩]
                  have e4 : dG (A 18) (F 5) 4 (t3 (A 18) (F 5) (0, F 6)) = ((1, a20), v20) := by
                    rw [e3]
                    exact hw20n
                  have eS : tS (A 18) (F 5) (0, F 6) = (1, a20) := by
                    unfold tS
                    rw [if_pos ⟨rfl, by (try dsimp only); omega⟩, e4]
                  exact eS
              · refine R_s (P := True) (f' := (45, [some (vR 17), some (vR 29), some (vI x), some (vI (nx (A 18) (F 5) (a19)))], [vI 60, vI (nx (A 18) (F 5) (a19))], LAY (u (u (u A 36 (A 36)) 37 (A 37)) 35 (wr (A 35) x 2)) (u (u F 7 (F 7)) 6 a19), 0, 0)) hc44 2 rfl trivial ?_
                refine R_ic (t := 56) hc44 rfl rfl (fun (c11 : nx (A 18) (F 5) (a19) = 60) => ?_) (fun (c11 : ¬ (nx (A 18) (F 5) (a19) = 60)) => ?_)
                · refine R_s (P := (0 ≤ x ∧ x < ((A 36).length : Int)) ∧ inI (a19 + 1) ∧ True) (f' := (75, [some (vR 17), some (vR 29), some (vI x), some (vI (nx (A 18) (F 5) (a19)))], [vI 4, vR 17], LAY (u (u (u A 37 (A 37)) 35 (wr (A 35) x 2)) 36 (wr (A 36) x (nx (A 18) (F 5) (a19)))) (u (u F 7 (F 7)) 6 (a19 + 1)), 0, 0)) hc44 13 rfl ⟨⟨by omega, by omega⟩, ⟨by omega, by omega⟩, trivial⟩ ?_
                  refine R_cv hc44 rfl rfl (l_numb (A := (u (u (u A 37 (A 37)) 35 (wr (A 35) x 2)) 36 (wr (A 36) x (nx (A 18) (F 5) (a19))))) (F := (u (u F 7 (F 7)) 6 (a19 + 1))) (LENS_u (LENS_u (LENS_u hL (by show (A 37).length = (A 37).length; omega)) (by show (wr (A 35) x 2).length = (A 35).length; simp only [wr_len])) (by show (wr (A 36) x (nx (A 18) (F 5) (a19))).length = (A 36).length; simp only [wr_len])) h5 ⟨by (show 0 ≤ a19 + 1); omega, by (have := nx_in (l := A 18) (n := F 5) (a := a19) (by omega)); (show a19 + 1 ≤ F 5); omega⟩ (kk := 4) (by decide) rfl) (fun r G9 hp9 => ?_)
                  obtain ⟨b21, a21, v21, rfl, rfl, hb21, hw21, p21, q21, w21⟩ := hp9
                  have p21 : 0 ≤ a21 := p21
                  have q21 : a21 ≤ F 5 := q21
                  refine R_s (f' := (78, [some (vR 17), some (vR 29), some (vI x), some (vI (nx (A 18) (F 5) (a19)))], [vI b21], LAY (u (u (u A 37 (A 37)) 35 (wr (A 35) x 2)) 36 (wr (A 36) x (nx (A 18) (F 5) (a19)))) (u (u F 6 a21) 7 v21), 0, 0)) hc44 0 rfl trivial ?_
                  refine R_if (t := 83) hc44 rfl rfl (fun (c12 : ¬ b21 = 0) => ?_) (fun (c12 : ¬ (¬ b21 = 0)) => ?_)
                  · refine R_s (P := (0 ≤ x ∧ x < ((A 37).length : Int)) ∧ True) (f' := (94, [some (vR 17), some (vR 29), some (vI x), some (vI (nx (A 18) (F 5) (a19)))], [vI 1], LAY (u (u (u A 35 (wr (A 35) x 2)) 36 (wr (A 36) x (nx (A 18) (F 5) (a19)))) 37 (wr (A 37) x v21)) (u (u F 6 a21) 7 v21), 0, 0)) hc44 7 rfl ⟨⟨by omega, by omega⟩, trivial⟩ ?_
                    refine R_retz hc44 rfl rfl (Or.inr rfl) ⟨1, wr (A 35) x 2, wr (A 36) x (nx (A 18) (F 5) (a19)), wr (A 37) x v21, a21, v21, rfl, rfl, (by (try simp only [wr_len]); omega), (by (try simp only [wr_len]); omega), (by (try simp only [wr_len]); omega), by decide, by omega, by first | omega | (have := nx_in (l := A 18) (n := F 5) (a := F 6) (by omega); omega), fun q hq => by rw [rd_wr_n (by omega) (by omega) (by omega)], fun q hq => by rw [rd_wr_n (by omega) (by omega) (by omega)], fun q hq => by rw [rd_wr_n (by omega) (by omega) (by omega)], ?_⟩
                    have ehw17 : b17 = 1 := by omega
                    rw [ehw17] at hw17
                    have hw17n : wD (A 18) (F 5) IFF (0, F 6) = (0, a17) := hw17
                    have ehw18 : b18 = 1 := by omega
                    rw [ehw18] at hw18
                    have hw18n : wD (A 18) (F 5) YY (0, a17) = (0, a18) := hw18
                    have ehw19 : b19 = 1 := by omega
                    rw [ehw19] at hw19
                    have hw19n : wD (A 18) (F 5) IELD (0, a18) = (0, a19) := hw19
                    have ehw21 : b21 = 1 := by omega
                    rw [ehw21] at hw21
                    have hw21n : dG (A 18) (F 5) 4 (0, a19 + 1) = ((0, a21), v21) := hw21
                    have hYe : eE (A 18) (F 5) 121 (0, a17) = (0, a18) := hw18n
                    have e2 : t2 (A 18) (F 5) (0, F 6) = ((0, a19), 1) := by
                      unfold t2
                      rw [hw17n]
                      rw [if_pos rfl]
                      unfold fD
                      (try dsimp only)
                      rw [if_neg (by omega), hYe]
                      rw [if_neg (fun z => by have := z.2; (try dsimp only at this); omega), hw19n]
                    have e3 : t3 (A 18) (F 5) (0, F 6) = (0, a19 + 1) := by
                      unfold t3
                      rw [e2]
                      rw [if_pos ⟨rfl, by (try dsimp only); omega⟩]
                    have e4 : dG (A 18) (F 5) 4 (t3 (A 18) (F 5) (0, F 6)) = ((0, a21), v21) := by
                      rw [e3]
                      exact hw21n
                    have eS : tS (A 18) (F 5) (0, F 6) = (0, a21) := by
                      unfold tS
                      rw [if_pos ⟨rfl, by (try dsimp only); omega⟩, e4]
                    have eF : tF (A 18) (F 5) (0, F 6) = 1 := by
                      unfold tF
                      rw [if_pos ⟨rfl, by (try dsimp only); omega⟩, e2]
                    have eG : tG (A 18) (F 5) (0, F 6) = nx (A 18) (F 5) (a19) := by
                      unfold tG
                      rw [e2]
                    have eH : tH (A 18) (F 5) (0, F 6) = v21 := by
                      unfold tH
                      rw [e4]
                    refine ⟨eS, fun _ => ⟨?_, .inr ⟨?_, ?_⟩⟩⟩
                    · rw [eF, ← ex, rd_wr_s (by omega) (by (try simp only [wr_len]); omega)]
                      decide
                    · rw [eG, ← ex, rd_wr_s (by omega) (by (try simp only [wr_len]); omega)]
                    · rw [eH, ← ex, rd_wr_s (by omega) (by (try simp only [wr_len]); omega)]
                  · refine R_s (P := True) (f' := (82, [some (vR 17), some (vR 29), some (vI x), some (vI (nx (A 18) (F 5) (a19)))], [vI 0], LAY (u (u (u A 37 (A 37)) 35 (wr (A 35) x 2)) 36 (wr (A 36) x (nx (A 18) (F 5) (a19)))) (u (u F 6 a21) 7 v21), 0, 0)) hc44 1 rfl trivial ?_
                    refine R_retz hc44 rfl rfl (Or.inl rfl) ⟨0, wr (A 35) x 2, wr (A 36) x (nx (A 18) (F 5) (a19)), A 37, a21, v21, rfl, rfl, (by (try simp only [wr_len]); omega), (by (try simp only [wr_len]); omega), (by (try simp only [wr_len]); omega), by decide, by omega, by first | omega | (have := nx_in (l := A 18) (n := F 5) (a := F 6) (by omega); omega), fun q hq => by rw [rd_wr_n (by omega) (by omega) (by omega)], fun q hq => by rw [rd_wr_n (by omega) (by omega) (by omega)], fun _ _ => rfl, ?_, fun z => absurd z (by decide)⟩
                    have ehw17 : b17 = 1 := by omega
                    rw [ehw17] at hw17
                    have hw17n : wD (A 18) (F 5) IFF (0, F 6) = (0, a17) := hw17
                    have ehw18 : b18 = 1 := by omega
                    rw [ehw18] at hw18
                    have hw18n : wD (A 18) (F 5) YY (0, a17) = (0, a18) := hw18
                    have ehw19 : b19 = 1 := by omega
                    rw [ehw19] at hw19
                    have hw19n : wD (A 18) (F 5) IELD (0, a18) = (0, a19) := hw19
                    have ehw21 : b21 = 0 := by omega
                    rw [ehw21] at hw21
                    have hw21n : dG (A 18) (F 5) 4 (0, a19 + 1) = ((1, a21), v21) := hw21
                    have hYe : eE (A 18) (F 5) 121 (0, a17) = (0, a18) := hw18n
                    have e2 : t2 (A 18) (F 5) (0, F 6) = ((0, a19), 1) := by
                      unfold t2
                      rw [hw17n]
                      rw [if_pos rfl]
                      unfold fD
                      (try dsimp only)
                      rw [if_neg (by omega), hYe]
                      rw [if_neg (fun z => by have := z.2; (try dsimp only at this); omega), hw19n]
                    have e3 : t3 (A 18) (F 5) (0, F 6) = (0, a19 + 1) := by
                      unfold t3
                      rw [e2]
                      rw [if_pos ⟨rfl, by (try dsimp only); omega⟩]
                    have e4 : dG (A 18) (F 5) 4 (t3 (A 18) (F 5) (0, F 6)) = ((1, a21), v21) := by
                      rw [e3]
                      exact hw21n
                    have eS : tS (A 18) (F 5) (0, F 6) = (1, a21) := by
                      unfold tS
                      rw [if_pos ⟨rfl, by (try dsimp only); omega⟩, e4]
                    exact eS
                · refine R_s (P := True) (f' := (51, [some (vR 17), some (vR 29), some (vI x), some (vI (nx (A 18) (F 5) (a19)))], [vI 62, vI (nx (A 18) (F 5) (a19))], LAY (u (u (u A 36 (A 36)) 37 (A 37)) 35 (wr (A 35) x 2)) (u (u F 7 (F 7)) 6 a19), 0, 0)) hc44 2 rfl trivial ?_
                  refine R_ic (t := 56) hc44 rfl rfl (fun (c13 : nx (A 18) (F 5) (a19) = 62) => ?_) (fun (c13 : ¬ (nx (A 18) (F 5) (a19) = 62)) => ?_)
                  · refine R_s (P := (0 ≤ x ∧ x < ((A 36).length : Int)) ∧ inI (a19 + 1) ∧ True) (f' := (75, [some (vR 17), some (vR 29), some (vI x), some (vI (nx (A 18) (F 5) (a19)))], [vI 4, vR 17], LAY (u (u (u A 37 (A 37)) 35 (wr (A 35) x 2)) 36 (wr (A 36) x (nx (A 18) (F 5) (a19)))) (u (u F 7 (F 7)) 6 (a19 + 1)), 0, 0)) hc44 13 rfl ⟨⟨by omega, by omega⟩, ⟨by omega, by omega⟩, trivial⟩ ?_
                    refine R_cv hc44 rfl rfl (l_numb (A := (u (u (u A 37 (A 37)) 35 (wr (A 35) x 2)) 36 (wr (A 36) x (nx (A 18) (F 5) (a19))))) (F := (u (u F 7 (F 7)) 6 (a19 + 1))) (LENS_u (LENS_u (LENS_u hL (by show (A 37).length = (A 37).length; omega)) (by show (wr (A 35) x 2).length = (A 35).length; simp only [wr_len])) (by show (wr (A 36) x (nx (A 18) (F 5) (a19))).length = (A 36).length; simp only [wr_len])) h5 ⟨by (show 0 ≤ a19 + 1); omega, by (have := nx_in (l := A 18) (n := F 5) (a := a19) (by omega)); (show a19 + 1 ≤ F 5); omega⟩ (kk := 4) (by decide) rfl) (fun r G9 hp9 => ?_)
                    obtain ⟨b22, a22, v22, rfl, rfl, hb22, hw22, p22, q22, w22⟩ := hp9
                    have p22 : 0 ≤ a22 := p22
                    have q22 : a22 ≤ F 5 := q22
                    refine R_s (f' := (78, [some (vR 17), some (vR 29), some (vI x), some (vI (nx (A 18) (F 5) (a19)))], [vI b22], LAY (u (u (u A 37 (A 37)) 35 (wr (A 35) x 2)) 36 (wr (A 36) x (nx (A 18) (F 5) (a19)))) (u (u F 6 a22) 7 v22), 0, 0)) hc44 0 rfl trivial ?_
                    refine R_if (t := 83) hc44 rfl rfl (fun (c14 : ¬ b22 = 0) => ?_) (fun (c14 : ¬ (¬ b22 = 0)) => ?_)
                    · refine R_s (P := (0 ≤ x ∧ x < ((A 37).length : Int)) ∧ True) (f' := (94, [some (vR 17), some (vR 29), some (vI x), some (vI (nx (A 18) (F 5) (a19)))], [vI 1], LAY (u (u (u A 35 (wr (A 35) x 2)) 36 (wr (A 36) x (nx (A 18) (F 5) (a19)))) 37 (wr (A 37) x v22)) (u (u F 6 a22) 7 v22), 0, 0)) hc44 7 rfl ⟨⟨by omega, by omega⟩, trivial⟩ ?_
                      refine R_retz hc44 rfl rfl (Or.inr rfl) ⟨1, wr (A 35) x 2, wr (A 36) x (nx (A 18) (F 5) (a19)), wr (A 37) x v22, a22, v22, rfl, rfl, (by (try simp only [wr_len]); omega), (by (try simp only [wr_len]); omega), (by (try simp only [wr_len]); omega), by decide, by omega, by first | omega | (have := nx_in (l := A 18) (n := F 5) (a := F 6) (by omega); omega), fun q hq => by rw [rd_wr_n (by omega) (by omega) (by omega)], fun q hq => by rw [rd_wr_n (by omega) (by omega) (by omega)], fun q hq => by rw [rd_wr_n (by omega) (by omega) (by omega)], ?_⟩
                      have ehw17 : b17 = 1 := by omega
                      rw [ehw17] at hw17
                      have hw17n : wD (A 18) (F 5) IFF (0, F 6) = (0, a17) := hw17
                      have ehw18 : b18 = 1 := by omega
                      rw [ehw18] at hw18
                      have hw18n : wD (A 18) (F 5) YY (0, a17) = (0, a18) := hw18
                      have ehw19 : b19 = 1 := by omega
                      rw [ehw19] at hw19
                      have hw19n : wD (A 18) (F 5) IELD (0, a18) = (0, a19) := hw19
                      have ehw22 : b22 = 1 := by omega
                      rw [ehw22] at hw22
                      have hw22n : dG (A 18) (F 5) 4 (0, a19 + 1) = ((0, a22), v22) := hw22
                      have hYe : eE (A 18) (F 5) 121 (0, a17) = (0, a18) := hw18n
                      have e2 : t2 (A 18) (F 5) (0, F 6) = ((0, a19), 1) := by
                        unfold t2
                        rw [hw17n]
                        rw [if_pos rfl]
                        unfold fD
                        (try dsimp only)
                        rw [if_neg (by omega), hYe]
                        rw [if_neg (fun z => by have := z.2; (try dsimp only at this); omega), hw19n]
                      have e3 : t3 (A 18) (F 5) (0, F 6) = (0, a19 + 1) := by
                        unfold t3
                        rw [e2]
                        rw [if_pos ⟨rfl, by (try dsimp only); omega⟩]
                      have e4 : dG (A 18) (F 5) 4 (t3 (A 18) (F 5) (0, F 6)) = ((0, a22), v22) := by
                        rw [e3]
                        exact hw22n
                      have eS : tS (A 18) (F 5) (0, F 6) = (0, a22) := by
                        unfold tS
                        rw [if_pos ⟨rfl, by (try dsimp only); omega⟩, e4]
                      have eF : tF (A 18) (F 5) (0, F 6) = 1 := by
                        unfold tF
                        rw [if_pos ⟨rfl, by (try dsimp only); omega⟩, e2]
                      have eG : tG (A 18) (F 5) (0, F 6) = nx (A 18) (F 5) (a19) := by
                        unfold tG
                        rw [e2]
                      have eH : tH (A 18) (F 5) (0, F 6) = v22 := by
                        unfold tH
                        rw [e4]
                      refine ⟨eS, fun _ => ⟨?_, .inr ⟨?_, ?_⟩⟩⟩
                      · rw [eF, ← ex, rd_wr_s (by omega) (by (try simp only [wr_len]); omega)]
                        decide
                      · rw [eG, ← ex, rd_wr_s (by omega) (by (try simp only [wr_len]); omega)]
                      · rw [eH, ← ex, rd_wr_s (by omega) (by (try simp only [wr_len]); omega)]
                    · refine R_s (P := True) (f' := (82, [some (vR 17), some (vR 29), some (vI x), some (vI (nx (A 18) (F 5) (a19)))], [vI 0], LAY (u (u (u A 37 (A 37)) 35 (wr (A 35) x 2)) 36 (wr (A 36) x (nx (A 18) (F 5) (a19)))) (u (u F 6 a22) 7 v22), 0, 0)) hc44 1 rfl trivial ?_
                      refine R_retz hc44 rfl rfl (Or.inl rfl) ⟨0, wr (A 35) x 2, wr (A 36) x (nx (A 18) (F 5) (a19)), A 37, a22, v22, rfl, rfl, (by (try simp only [wr_len]); omega), (by (try simp only [wr_len]); omega), (by (try simp only [wr_len]); omega), by decide, by omega, by first | omega | (have := nx_in (l := A 18) (n := F 5) (a := F 6) (by omega); omega), fun q hq => by rw [rd_wr_n (by omega) (by omega) (by omega)], fun q hq => by rw [rd_wr_n (by omega) (by omega) (by omega)], fun _ _ => rfl, ?_, fun z => absurd z (by decide)⟩
                      have ehw17 : b17 = 1 := by omega
                      rw [ehw17] at hw17
                      have hw17n : wD (A 18) (F 5) IFF (0, F 6) = (0, a17) := hw17
                      have ehw18 : b18 = 1 := by omega
                      rw [ehw18] at hw18
                      have hw18n : wD (A 18) (F 5) YY (0, a17) = (0, a18) := hw18
                      have ehw19 : b19 = 1 := by omega
                      rw [ehw19] at hw19
                      have hw19n : wD (A 18) (F 5) IELD (0, a18) = (0, a19) := hw19
                      have ehw22 : b22 = 0 := by omega
                      rw [ehw22] at hw22
                      have hw22n : dG (A 18) (F 5) 4 (0, a19 + 1) = ((1, a22), v22) := hw22
                      have hYe : eE (A 18) (F 5) 121 (0, a17) = (0, a18) := hw18n
                      have e2 : t2 (A 18) (F 5) (0, F 6) = ((0, a19), 1) := by
                        unfold t2
                        rw [hw17n]
                        rw [if_pos rfl]
                        unfold fD
                        (try dsimp only)
                        rw [if_neg (by omega), hYe]
                        rw [if_neg (fun z => by have := z.2; (try dsimp only at this); omega), hw19n]
                      have e3 : t3 (A 18) (F 5) (0, F 6) = (0, a19 + 1) := by
                        unfold t3
                        rw [e2]
                        rw [if_pos ⟨rfl, by (try dsimp only); omega⟩]
                      have e4 : dG (A 18) (F 5) 4 (t3 (A 18) (F 5) (0, F 6)) = ((1, a22), v22) := by
                        rw [e3]
                        exact hw22n
                      have eS : tS (A 18) (F 5) (0, F 6) = (1, a22) := by
                        unfold tS
                        rw [if_pos ⟨rfl, by (try dsimp only); omega⟩, e4]
                      exact eS
                  · refine R_s (P := True) (f' := (55, [some (vR 17), some (vR 29), some (vI x), some (vI (nx (A 18) (F 5) (a19)))], [vI 0], LAY (u (u (u A 36 (A 36)) 37 (A 37)) 35 (wr (A 35) x 2)) (u (u F 7 (F 7)) 6 a19), 0, 0)) hc44 1 rfl trivial ?_
                    refine R_retz hc44 rfl rfl (Or.inl rfl) ⟨0, wr (A 35) x 2, A 36, A 37, a19, F 7, rfl, rfl, (by (try simp only [wr_len]); omega), (by (try simp only [wr_len]); omega), (by (try simp only [wr_len]); omega), by decide, by omega, by first | omega | (have := nx_in (l := A 18) (n := F 5) (a := F 6) (by omega); omega), fun q hq => by rw [rd_wr_n (by omega) (by omega) (by omega)], fun _ _ => rfl, fun _ _ => rfl, ?_, fun z => absurd z (by decide)⟩
                    have ehw17 : b17 = 1 := by omega
                    rw [ehw17] at hw17
                    have hw17n : wD (A 18) (F 5) IFF (0, F 6) = (0, a17) := hw17
                    have ehw18 : b18 = 1 := by omega
                    rw [ehw18] at hw18
                    have hw18n : wD (A 18) (F 5) YY (0, a17) = (0, a18) := hw18
                    have ehw19 : b19 = 1 := by omega
                    rw [ehw19] at hw19
                    have hw19n : wD (A 18) (F 5) IELD (0, a18) = (0, a19) := hw19
                    have hYe : eE (A 18) (F 5) 121 (0, a17) = (0, a18) := hw18n
                    have e2 : t2 (A 18) (F 5) (0, F 6) = ((0, a19), 1) := by
                      unfold t2
                      rw [hw17n]
                      rw [if_pos rfl]
                      unfold fD
                      (try dsimp only)
                      rw [if_neg (by omega), hYe]
                      rw [if_neg (fun z => by have := z.2; (try dsimp only at this); omega), hw19n]
                    have e3 : t3 (A 18) (F 5) (0, F 6) = (1, a19) := by
                      unfold t3
                      rw [e2]
                      rw [if_neg (fun z => by have := z.2; (try dsimp only at this); omega)]
                    have e4 : dG (A 18) (F 5) 4 (t3 (A 18) (F 5) (0, F 6)) = ((1, a19), 0) := by rw [e3, dG_f]
                    have eS : tS (A 18) (F 5) (0, F 6) = (1, a19) := by
                      unfold tS
                      rw [if_pos ⟨rfl, by (try dsimp only); omega⟩, e4]
                    exact eS
            · refine R_s (P := True) (f' := (30, [some (vR 17), some (vR 29), some (vI x), none], [vI 0], LAY (u (u (u A 36 (A 36)) 37 (A 37)) 35 (wr (A 35) x 2)) (u (u F 7 (F 7)) 6 a19), 0, 0)) hc44 1 rfl trivial ?_
              refine R_retz hc44 rfl rfl (Or.inl rfl) ⟨0, wr (A 35) x 2, A 36, A 37, a19, F 7, rfl, rfl, (by (try simp only [wr_len]); omega), (by (try simp only [wr_len]); omega), (by (try simp only [wr_len]); omega), by decide, by omega, by first | omega | (have := nx_in (l := A 18) (n := F 5) (a := F 6) (by omega); omega), fun q hq => by rw [rd_wr_n (by omega) (by omega) (by omega)], fun _ _ => rfl, fun _ _ => rfl, ?_, fun z => absurd z (by decide)⟩
              have ehw17 : b17 = 1 := by omega
              rw [ehw17] at hw17
              have hw17n : wD (A 18) (F 5) IFF (0, F 6) = (0, a17) := hw17
              have ehw18 : b18 = 1 := by omega
              rw [ehw18] at hw18
              have hw18n : wD (A 18) (F 5) YY (0, a17) = (0, a18) := hw18
              have ehw19 : b19 = 0 := by omega
              rw [ehw19] at hw19
              have hw19n : wD (A 18) (F 5) IELD (0, a18) = (1, a19) := hw19
              have hYe : eE (A 18) (F 5) 121 (0, a17) = (0, a18) := hw18n
              have e2 : t2 (A 18) (F 5) (0, F 6) = ((1, a19), 1) := by
                unfold t2
                rw [hw17n]
                rw [if_pos rfl]
                unfold fD
                (try dsimp only)
                rw [if_neg (by omega), hYe]
                rw [if_neg (fun z => by have := z.2; (try dsimp only at this); omega), hw19n]
              have e3 : t3 (A 18) (F 5) (0, F 6) = (1, a19) := by
                unfold t3
                rw [e2]
                rw [if_neg (fun z => absurd (show (1 : Int) = 0 from z.1) (by decide))]
              have e4 : dG (A 18) (F 5) 4 (t3 (A 18) (F 5) (0, F 6)) = ((1, a19), 0) := by rw [e3, dG_f]
              have eS : tS (A 18) (F 5) (0, F 6) = (1, a19) := by
                unfold tS
                rw [if_pos ⟨rfl, by (try dsimp only); omega⟩, e4]
              exact eS
          · refine R_s (P := True) (f' := (55, [some (vR 17), some (vR 29), some (vI x), some (vI 1)], [vI 1, vI x, vR 35], LAY (u (u (u A 35 (A 35)) 36 (A 36)) 37 (A 37)) (u (u F 7 (F 7)) 6 a18), 0, 0)) hc45 7 rfl trivial ?_
            refine R_if (t := 62) hc45 rfl rfl (fun (z : 1 = 0) => absurd z (by decide)) (fun (_ : ¬ (1 = 0)) => ?_)
            refine R_s (P := (0 ≤ x ∧ x < ((A 35).length : Int)) ∧ True) (f' := (66, [some (vR 17), some (vR 29), some (vI x), some (vI 1)], [vI 1, vR 17], LAY (u (u (u A 36 (A 36)) 37 (A 37)) 35 (wr (A 35) x 1)) (u (u F 7 (F 7)) 6 a18), 0, 0)) hc45 5 rfl ⟨⟨by omega, by omega⟩, trivial⟩ ?_
            refine R_if (t := 74) hc45 rfl rfl (fun (z : 1 = 0) => absurd z (by decide)) (fun (_ : ¬ (1 = 0)) => ?_)
            refine R_s (P := True) (f' := (76, [some (vR 17), some (vR 29), some (vI x), some (vI 1)], [vS 5, vR 17], LAY (u (u (u A 36 (A 36)) 37 (A 37)) 35 (wr (A 35) x 1)) (u (u F 7 (F 7)) 6 a18), 0, 0)) hc45 2 rfl trivial ?_
            refine R_cv hc45 rfl rfl (l_word5 (A := (u (u (u A 36 (A 36)) 37 (A 37)) 35 (wr (A 35) x 1))) (F := (u (u F 7 (F 7)) 6 a18)) (LENS_u (LENS_u (LENS_u hL (by show (A 36).length = (A 36).length; omega)) (by show (A 37).length = (A 37).length; omega)) (by show (wr (A 35) x 1).length = (A 35).length; simp only [wr_len])) h5 ⟨by (show 0 ≤ a18); omega, by (show a18 ≤ F 5); omega⟩) (fun r G9 hp9 => ?_)
            obtain ⟨b23, a23, rfl, rfl, hb23, hw23, p23, q23⟩ := hp9
            have p23 : 0 ≤ a23 := p23
            have q23 : a23 ≤ F 5 := q23
            refine R_s (f' := (79, [some (vR 17), some (vR 29), some (vI x), some (vI 1)], [vI b23], LAY (u (u (u A 36 (A 36)) 37 (A 37)) 35 (wr (A 35) x 1)) (u (u F 7 (F 7)) 6 a23), 0, 0)) hc45 0 rfl trivial ?_
            refine R_retz hc45 rfl rfl (by omega) ?_
            refine R_s (f' := (26, [some (vR 17), some (vR 29), some (vI x), none], [vI b23], LAY (u (u (u A 36 (A 36)) 37 (A 37)) 35 (wr (A 35) x 1)) (u (u F 7 (F 7)) 6 a23), 0, 0)) hc44 0 rfl trivial ?_
            refine R_if (t := 31) hc44 rfl rfl (fun (c10 : ¬ b23 = 0) => ?_) (fun (c10 : ¬ (¬ b23 = 0)) => ?_)
            · refine R_s (P := True) (f' := (32, [some (vR 17), some (vR 29), some (vI x), none], [vR 17], LAY (u (u (u A 36 (A 36)) 37 (A 37)) 35 (wr (A 35) x 1)) (u (u F 7 (F 7)) 6 a23), 0, 0)) hc44 1 rfl trivial ?_
              refine R_cv hc44 rfl rfl (l_next (A := (u (u (u A 36 (A 36)) 37 (A 37)) 35 (wr (A 35) x 1))) (F := (u (u F 7 (F 7)) 6 a23)) (LENS_u (LENS_u (LENS_u hL (by show (A 36).length = (A 36).length; omega)) (by show (A 37).length = (A 37).length; omega)) (by show (wr (A 35) x 1).length = (A 35).length; simp only [wr_len])) h5 ⟨by (show 0 ≤ a23); omega, by (show a23 ≤ F 5); omega⟩) (fun r G9 hp9 => ?_)
              obtain ⟨e1, rfl⟩ := hp9
              have e2 : r = some (vI (nx (A 18) (F 5) (a23))) := e1
              clear e1
              subst e2
              refine R_s (f' := (35, [some (vR 17), some (vR 29), some (vI x), none], [vI (nx (A 18) (F 5) (a23))], LAY (u (u (u A 36 (A 36)) 37 (A 37)) 35 (wr (A 35) x 1)) (u (u F 7 (F 7)) 6 a23), 0, 0)) hc44 0 rfl trivial ?_
              refine R_s (P := True) (f' := (39, [some (vR 17), some (vR 29), some (vI x), some (vI (nx (A 18) (F 5) (a23)))], [vI 61, vI (nx (A 18) (F 5) (a23))], LAY (u (u (u A 36 (A 36)) 37 (A 37)) 35 (wr (A 35) x 1)) (u (u F 7 (F 7)) 6 a23), 0, 0)) hc44 3 rfl trivial ?_
              refine R_ic (t := 56) hc44 rfl rfl (fun (c11 : nx (A 18) (F 5) (a23) = 61) => ?_) (fun (c11 : ¬ (nx (A 18) (F 5) (a23) = 61)) => ?_)
              · refine R_s (P := (0 ≤ x ∧ x < ((A 36).length : Int)) ∧ inI (a23 + 1) ∧ True) (f' := (75, [some (vR 17), some (vR 29), some (vI x), some (vI (nx (A 18) (F 5) (a23)))], [vI 4, vR 17], LAY (u (u (u A 37 (A 37)) 35 (wr (A 35) x 1)) 36 (wr (A 36) x (nx (A 18) (F 5) (a23)))) (u (u F 7 (F 7)) 6 (a23 + 1)), 0, 0)) hc44 13 rfl ⟨⟨by omega, by omega⟩, ⟨by omega, by omega⟩, trivial⟩ ?_
                refine R_cv hc44 rfl rfl (l_numb (A := (u (u (u A 37 (A 37)) 35 (wr (A 35) x 1)) 36 (wr (A 36) x (nx (A 18) (F 5) (a23))))) (F := (u (u F 7 (F 7)) 6 (a23 + 1))) (LENS_u (LENS_u (LENS_u hL (by show (A 37).length = (A 37).length; omega)) (by show (wr (A 35) x 1).length = (A 35).length; simp only [wr_len])) (by show (wr (A 36) x (nx (A 18) (F 5) (a23))).length = (A 36).length; simp only [wr_len])) h5 ⟨by (show 0 ≤ a23 + 1); omega, by (have := nx_in (l := A 18) (n := F 5) (a := a23) (by omega)); (show a23 + 1 ≤ F 5); omega⟩ (kk := 4) (by decide) rfl) (fun r G9 hp9 => ?_)
                obtain ⟨b24, a24, v24, rfl, rfl, hb24, hw24, p24, q24, w24⟩ := hp9
                have p24 : 0 ≤ a24 := p24
                have q24 : a24 ≤ F 5 := q24
                refine R_s (f' := (78, [some (vR 17), some (vR 29), some (vI x), some (vI (nx (A 18) (F 5) (a23)))], [vI b24], LAY (u (u (u A 37 (A 37)) 35 (wr (A 35) x 1)) 36 (wr (A 36) x (nx (A 18) (F 5) (a23)))) (u (u F 6 a24) 7 v24), 0, 0)) hc44 0 rfl trivial ?_
                refine R_if (t := 83) hc44 rfl rfl (fun (c12 : ¬ b24 = 0) => ?_) (fun (c12 : ¬ (¬ b24 = 0)) => ?_)
                · refine R_s (P := (0 ≤ x ∧ x < ((A 37).length : Int)) ∧ True) (f' := (94, [some (vR 17), some (vR 29), some (vI x), some (vI (nx (A 18) (F 5) (a23)))], [vI 1], LAY (u (u (u A 35 (wr (A 35) x 1)) 36 (wr (A 36) x (nx (A 18) (F 5) (a23)))) 37 (wr (A 37) x v24)) (u (u F 6 a24) 7 v24), 0, 0)) hc44 7 rfl ⟨⟨by omega, by omega⟩, trivial⟩ ?_
                  refine R_retz hc44 rfl rfl (Or.inr rfl) ⟨1, wr (A 35) x 1, wr (A 36) x (nx (A 18) (F 5) (a23)), wr (A 37) x v24, a24, v24, rfl, rfl, (by (try simp only [wr_len]); omega), (by (try simp only [wr_len]); omega), (by (try simp only [wr_len]); omega), by decide, by omega, by first | omega | (have := nx_in (l := A 18) (n := F 5) (a := F 6) (by omega); omega), fun q hq => by rw [rd_wr_n (by omega) (by omega) (by omega)], fun q hq => by rw [rd_wr_n (by omega) (by omega) (by omega)], fun q hq => by rw [rd_wr_n (by omega) (by omega) (by omega)], ?_⟩
                  have ehw17 : b17 = 1 := by omega
                  rw [ehw17] at hw17
                  have hw17n : wD (A 18) (F 5) IFF (0, F 6) = (0, a17) := hw17
                  have ehw18 : b18 = 1 := by omega
                  rw [ehw18] at hw18
                  have hw18n : wD (A 18) (F 5) YY (0, a17) = (0, a18) := hw18
                  have ehw23 : b23 = 1 := by omega
                  rw [ehw23] at hw23
                  have hw23n : wD (A 18) (F 5) EAR (0, a18) = (0, a23) := hw23
                  have ehw24 : b24 = 1 := by omega
                  rw [ehw24] at hw24
                  have hw24n : dG (A 18) (F 5) 4 (0, a23 + 1) = ((0, a24), v24) := hw24
                  have hYe : eE (A 18) (F 5) 121 (0, a17) = (0, a18) := hw18n
                  have e2 : t2 (A 18) (F 5) (0, F 6) = ((0, a23), 0) := by
                    unfold t2
                    rw [hw17n]
                    rw [if_pos rfl]
                    unfold fD
                    (try dsimp only)
                    rw [if_neg (by omega), hYe]
                    rw [if_pos ⟨rfl, by (try dsimp only); omega⟩, hw23n]
                  have e3 : t3 (A 18) (F 5) (0, F 6) = (0, a23 + 1) := by
                    unfold t3
                    rw [e2]
                    rw [if_pos ⟨rfl, by (try dsimp only); omega⟩]
                  have e4 : dG (A 18) (F 5) 4 (t3 (A 18) (F 5) (0, F 6)) = ((0, a24), v24) := by
                    rw [e3]
                    exact hw24n
                  have eS : tS (A 18) (F 5) (0, F 6) = (0, a24) := by
                    unfold tS
                    rw [if_pos ⟨rfl, by (try dsimp only); omega⟩, e4]
                  have eF : tF (A 18) (F 5) (0, F 6) = 0 := by
                    unfold tF
                    rw [if_pos ⟨rfl, by (try dsimp only); omega⟩, e2]
                  have eG : tG (A 18) (F 5) (0, F 6) = nx (A 18) (F 5) (a23) := by
                    unfold tG
                    rw [e2]
                  have eH : tH (A 18) (F 5) (0, F 6) = v24 := by
                    unfold tH
                    rw [e4]
                  refine ⟨eS, fun _ => ⟨?_, .inr ⟨?_, ?_⟩⟩⟩
                  · rw [eF, ← ex, rd_wr_s (by omega) (by (try simp only [wr_len]); omega)]
                    decide
                  · rw [eG, ← ex, rd_wr_s (by omega) (by (try simp only [wr_len]); omega)]
                  · rw [eH, ← ex, rd_wr_s (by omega) (by (try simp only [wr_len]); omega)]
                · refine R_s (P := True) (f' := (82, [some (vR 17), some (vR 29), some (vI x), some (vI (nx (A 18) (F 5) (a23)))], [vI 0], LAY (u (u (u A 37 (A 37)) 35 (wr (A 35) x 1)) 36 (wr (A 36) x (nx (A 18) (F 5) (a23)))) (u (u F 6 a24) 7 v24), 0, 0)) hc44 1 rfl trivial ?_
                  refine R_retz hc44 rfl rfl (Or.inl rfl) ⟨0, wr (A 35) x 1, wr (A 36) x (nx (A 18) (F 5) (a23)), A 37, a24, v24, rfl, rfl, (by (try simp only [wr_len]); omega), (by (try simp only [wr_len]); omega), (by (try simp only [wr_len]); omega), by decide, by omega, by first | omega | (have := nx_in (l := A 18) (n := F 5) (a := F 6) (by omega); omega), fun q hq => by rw [rd_wr_n (by omega) (by omega) (by omega)], fun q hq => by rw [rd_wr_n (by omega) (by omega) (by omega)], fun _ _ => rfl, ?_, fun z => absurd z (by decide)⟩
                  have ehw17 : b17 = 1 := by omega
                  rw [ehw17] at hw17
                  have hw17n : wD (A 18) (F 5) IFF (0, F 6) = (0, a17) := hw17
                  have ehw18 : b18 = 1 := by omega
                  rw [ehw18] at hw18
                  have hw18n : wD (A 18) (F 5) YY (0, a17) = (0, a18) := hw18
                  have ehw23 : b23 = 1 := by omega
                  rw [ehw23] at hw23
                  have hw23n : wD (A 18) (F 5) EAR (0, a18) = (0, a23) := hw23
                  have ehw24 : b24 = 0 := by omega
                  rw [ehw24] at hw24
                  have hw24n : dG (A 18) (F 5) 4 (0, a23 + 1) = ((1, a24), v24) := hw24
                  have hYe : eE (A 18) (F 5) 121 (0, a17) = (0, a18) := hw18n
                  have e2 : t2 (A 18) (F 5) (0, F 6) = ((0, a23), 0) := by
                    unfold t2
                    rw [hw17n]
                    rw [if_pos rfl]
                    unfold fD
                    (try dsimp only)
                    rw [if_neg (by omega), hYe]
                    rw [if_pos ⟨rfl, by (try dsimp only); omega⟩, hw23n]
                  have e3 : t3 (A 18) (F 5) (0, F 6) = (0, a23 + 1) := by
                    unfold t3
                    rw [e2]
                    rw [if_pos ⟨rfl, by (try dsimp only); omega⟩]
                  have e4 : dG (A 18) (F 5) 4 (t3 (A 18) (F 5) (0, F 6)) = ((1, a24), v24) := by
                    rw [e3]
                    exact hw24n
                  have eS : tS (A 18) (F 5) (0, F 6) = (1, a24) := by
                    unfold tS
                    rw [if_pos ⟨rfl, by (try dsimp only); omega⟩, e4]
                  exact eS
              · refine R_s (P := True) (f' := (45, [some (vR 17), some (vR 29), some (vI x), some (vI (nx (A 18) (F 5) (a23)))], [vI 60, vI (nx (A 18) (F 5) (a23))], LAY (u (u (u A 36 (A 36)) 37 (A 37)) 35 (wr (A 35) x 1)) (u (u F 7 (F 7)) 6 a23), 0, 0)) hc44 2 rfl trivial ?_
                refine R_ic (t := 56) hc44 rfl rfl (fun (c13 : nx (A 18) (F 5) (a23) = 60) => ?_) (fun (c13 : ¬ (nx (A 18) (F 5) (a23) = 60)) => ?_)
                · refine R_s (P := (0 ≤ x ∧ x < ((A 36).length : Int)) ∧ inI (a23 + 1) ∧ True) (f' := (75, [some (vR 17), some (vR 29), some (vI x), some (vI (nx (A 18) (F 5) (a23)))], [vI 4, vR 17], LAY (u (u (u A 37 (A 37)) 35 (wr (A 35) x 1)) 36 (wr (A 36) x (nx (A 18) (F 5) (a23)))) (u (u F 7 (F 7)) 6 (a23 + 1)), 0, 0)) hc44 13 rfl ⟨⟨by omega, by omega⟩, ⟨by omega, by omega⟩, trivial⟩ ?_
                  refine R_cv hc44 rfl rfl (l_numb (A := (u (u (u A 37 (A 37)) 35 (wr (A 35) x 1)) 36 (wr (A 36) x (nx (A 18) (F 5) (a23))))) (F := (u (u F 7 (F 7)) 6 (a23 + 1))) (LENS_u (LENS_u (LENS_u hL (by show (A 37).length = (A 37).length; omega)) (by show (wr (A 35) x 1).length = (A 35).length; simp only [wr_len])) (by show (wr (A 36) x (nx (A 18) (F 5) (a23))).length = (A 36).length; simp only [wr_len])) h5 ⟨by (show 0 ≤ a23 + 1); omega, by (have := nx_in (l := A 18) (n := F 5) (a := a23) (by omega)); (show a23 + 1 ≤ F 5); omega⟩ (kk := 4) (by decide) rfl) (fun r G9 hp9 => ?_)
                  obtain ⟨b25, a25, v25, rfl, rfl, hb25, hw25, p25, q25, w25⟩ := hp9
                  have p25 : 0 ≤ a25 := p25
                  have q25 : a25 ≤ F 5 := q25
                  refine R_s (f' := (78, [some (vR 17), some (vR 29), some (vI x), some (vI (nx (A 18) (F 5) (a23)))], [vI b25], LAY (u (u (u A 37 (A 37)) 35 (wr (A 35) x 1)) 36 (wr (A 36) x (nx (A 18) (F 5) (a23)))) (u (u F 6 a25) 7 v25), 0, 0)) hc44 0 rfl trivial ?_
                  refine R_if (t := 83) hc44 rfl rfl (fun (c14 : ¬ b25 = 0) => ?_) (fun (c14 : ¬ (¬ b25 = 0)) => ?_)
                  · refine R_s (P := (0 ≤ x ∧ x < ((A 37).length : Int)) ∧ True) (f' := (94, [some (vR 17), some (vR 29), some (vI x), some (vI (nx (A 18) (F 5) (a23)))], [vI 1], LAY (u (u (u A 35 (wr (A 35) x 1)) 36 (wr (A 36) x (nx (A 18) (F 5) (a23)))) 37 (wr (A 37) x v25)) (u (u F 6 a25) 7 v25), 0, 0)) hc44 7 rfl ⟨⟨by omega, by omega⟩, trivial⟩ ?_
                    refine R_retz hc44 rfl rfl (Or.inr rfl) ⟨1, wr (A 35) x 1, wr (A 36) x (nx (A 18) (F 5) (a23)), wr (A 37) x v25, a25, v25, rfl, rfl, (by (try simp only [wr_len]); omega), (by (try simp only [wr_len]); omega), (by (try simp only [wr_len]); omega), by decide, by omega, by first | omega | (have := nx_in (l := A 18) (n := F 5) (a := F 6) (by omega); omega), fun q hq => by rw [rd_wr_n (by omega) (by omega) (by omega)], fun q hq => by rw [rd_wr_n (by omega) (by omega) (by omega)], fun q hq => by rw [rd_wr_n (by omega) (by omega) (by omega)], ?_⟩
                    have ehw17 : b17 = 1 := by omega
                    rw [ehw17] at hw17
                    have hw17n : wD (A 18) (F 5) IFF (0, F 6) = (0, a17) := hw17
                    have ehw18 : b18 = 1 := by omega
                    rw [ehw18] at hw18
                    have hw18n : wD (A 18) (F 5) YY (0, a17) = (0, a18) := hw18
                    have ehw23 : b23 = 1 := by omega
                    rw [ehw23] at hw23
                    have hw23n : wD (A 18) (F 5) EAR (0, a18) = (0, a23) := hw23
                    have ehw25 : b25 = 1 := by omega
                    rw [ehw25] at hw25
                    have hw25n : dG (A 18) (F 5) 4 (0, a23 + 1) = ((0, a25), v25) := hw25
                    have hYe : eE (A 18) (F 5) 121 (0, a17) = (0, a18) := hw18n
                    have e2 : t2 (A 18) (F 5) (0, F 6) = ((0, a23), 0) := by
                      unfold t2
                      rw [hw17n]
                      rw [if_pos rfl]
                      unfold fD
                      (try dsimp only)
                      rw [if_neg (by omega), hYe]
                      rw [if_pos ⟨rfl, by (try dsimp only); omega⟩, hw23n]
                    have e3 : t3 (A 18) (F 5) (0, F 6) = (0, a23 + 1) := by
                      unfold t3
                      rw [e2]
                      rw [if_pos ⟨rfl, by (try dsimp only); omega⟩]
                    have e4 : dG (A 18) (F 5) 4 (t3 (A 18) (F 5) (0, F 6)) = ((0, a25), v25) := by
                      rw [e3]
                      exact hw25n
                    have eS : tS (A 18) (F 5) (0, F 6) = (0, a25) := by
                      unfold tS
                      rw [if_pos ⟨rfl, by (try dsimp only); omega⟩, e4]
                    have eF : tF (A 18) (F 5) (0, F 6) = 0 := by
                      unfold tF
                      rw [if_pos ⟨rfl, by (try dsimp only); omega⟩, e2]
                    have eG : tG (A 18) (F 5) (0, F 6) = nx (A 18) (F 5) (a23) := by
                      unfold tG
                      rw [e2]
                    have eH : tH (A 18) (F 5) (0, F 6) = v25 := by
                      unfold tH
                      rw [e4]
                    refine ⟨eS, fun _ => ⟨?_, .inr ⟨?_, ?_⟩⟩⟩
                    · rw [eF, ← ex, rd_wr_s (by omega) (by (try simp only [wr_len]); omega)]
                      decide
                    · rw [eG, ← ex, rd_wr_s (by omega) (by (try simp only [wr_len]); omega)]
                    · rw [eH, ← ex, rd_wr_s (by omega) (by (try simp only [wr_len]); omega)]
                  · refine R_s (P := True) (f' := (82, [some (vR 17), some (vR 29), some (vI x), some (vI (nx (A 18) (F 5) (a23)))], [vI 0], LAY (u (u (u A 37 (A 37)) 35 (wr (A 35) x 1)) 36 (wr (A 36) x (nx (A 18) (F 5) (a23)))) (u (u F 6 a25) 7 v25), 0, 0)) hc44 1 rfl trivial ?_
                    refine R_retz hc44 rfl rfl (Or.inl rfl) ⟨0, wr (A 35) x 1, wr (A 36) x (nx (A 18) (F 5) (a23)), A 37, a25, v25, rfl, rfl, (by (try simp only [wr_len]); omega), (by (try simp only [wr_len]); omega), (by (try simp only [wr_len]); omega), by decide, by omega, by first | omega | (have := nx_in (l := A 18) (n := F 5) (a := F 6) (by omega); omega), fun q hq => by rw [rd_wr_n (by omega) (by omega) (by omega)], fun q hq => by rw [rd_wr_n (by omega) (by omega) (by omega)], fun _ _ => rfl, ?_, fun z => absurd z (by decide)⟩
                    have ehw17 : b17 = 1 := by omega
                    rw [ehw17] at hw17
                    have hw17n : wD (A 18) (F 5) IFF (0, F 6) = (0, a17) := hw17
                    have ehw18 : b18 = 1 := by omega
                    rw [ehw18] at hw18
                    have hw18n : wD (A 18) (F 5) YY (0, a17) = (0, a18) := hw18
                    have ehw23 : b23 = 1 := by omega
                    rw [ehw23] at hw23
                    have hw23n : wD (A 18) (F 5) EAR (0, a18) = (0, a23) := hw23
                    have ehw25 : b25 = 0 := by omega
                    rw [ehw25] at hw25
                    have hw25n : dG (A 18) (F 5) 4 (0, a23 + 1) = ((1, a25), v25) := hw25
                    have hYe : eE (A 18) (F 5) 121 (0, a17) = (0, a18) := hw18n
                    have e2 : t2 (A 18) (F 5) (0, F 6) = ((0, a23), 0) := by
                      unfold t2
                      rw [hw17n]
                      rw [if_pos rfl]
                      unfold fD
                      (try dsimp only)
                      rw [if_neg (by omega), hYe]
                      rw [if_pos ⟨rfl, by (try dsimp only); omega⟩, hw23n]
                    have e3 : t3 (A 18) (F 5) (0, F 6) = (0, a23 + 1) := by
                      unfold t3
                      rw [e2]
                      rw [if_pos ⟨rfl, by (try dsimp only); omega⟩]
                    have e4 : dG (A 18) (F 5) 4 (t3 (A 18) (F 5) (0, F 6)) = ((1, a25), v25) := by
                      rw [e3]
                      exact hw25n
                    have eS : tS (A 18) (F 5) (0, F 6) = (1, a25) := by
                      unfold tS
                      rw [if_pos ⟨rfl, by (try dsimp only); omega⟩, e4]
                    exact eS
                · refine R_s (P := True) (f' := (51, [some (vR 17), some (vR 29), some (vI x), some (vI (nx (A 18) (F 5) (a23)))], [vI 62, vI (nx (A 18) (F 5) (a23))], LAY (u (u (u A 36 (A 36)) 37 (A 37)) 35 (wr (A 35) x 1)) (u (u F 7 (F 7)) 6 a23), 0, 0)) hc44 2 rfl trivial ?_
                  refine R_ic (t := 56) hc44 rfl rfl (fun (c15 : nx (A 18) (F 5) (a23) = 62) => ?_) (fun (c15 : ¬ (nx (A 18) (F 5) (a23) = 62)) => ?_)
                  · refine R_s (P := (0 ≤ x ∧ x < ((A 36).length : Int)) ∧ inI (a23 + 1) ∧ True) (f' := (75, [some (vR 17), some (vR 29), some (vI x), some (vI (nx (A 18) (F 5) (a23)))], [vI 4, vR 17], LAY (u (u (u A 37 (A 37)) 35 (wr (A 35) x 1)) 36 (wr (A 36) x (nx (A 18) (F 5) (a23)))) (u (u F 7 (F 7)) 6 (a23 + 1)), 0, 0)) hc44 13 rfl ⟨⟨by omega, by omega⟩, ⟨by omega, by omega⟩, trivial⟩ ?_
                    refine R_cv hc44 rfl rfl (l_numb (A := (u (u (u A 37 (A 37)) 35 (wr (A 35) x 1)) 36 (wr (A 36) x (nx (A 18) (F 5) (a23))))) (F := (u (u F 7 (F 7)) 6 (a23 + 1))) (LENS_u (LENS_u (LENS_u hL (by show (A 37).length = (A 37).length; omega)) (by show (wr (A 35) x 1).length = (A 35).length; simp only [wr_len])) (by show (wr (A 36) x (nx (A 18) (F 5) (a23))).length = (A 36).length; simp only [wr_len])) h5 ⟨by (show 0 ≤ a23 + 1); omega, by (have := nx_in (l := A 18) (n := F 5) (a := a23) (by omega)); (show a23 + 1 ≤ F 5); omega⟩ (kk := 4) (by decide) rfl) (fun r G9 hp9 => ?_)
                    obtain ⟨b26, a26, v26, rfl, rfl, hb26, hw26, p26, q26, w26⟩ := hp9
                    have p26 : 0 ≤ a26 := p26
                    have q26 : a26 ≤ F 5 := q26
                    refine R_s (f' := (78, [some (vR 17), some (vR 29), some (vI x), some (vI (nx (A 18) (F 5) (a23)))], [vI b26], LAY (u (u (u A 37 (A 37)) 35 (wr (A 35) x 1)) 36 (wr (A 36) x (nx (A 18) (F 5) (a23)))) (u (u F 6 a26) 7 v26), 0, 0)) hc44 0 rfl trivial ?_
                    refine R_if (t := 83) hc44 rfl rfl (fun (c16 : ¬ b26 = 0) => ?_) (fun (c16 : ¬ (¬ b26 = 0)) => ?_)
                    · refine R_s (P := (0 ≤ x ∧ x < ((A 37).length : Int)) ∧ True) (f' := (94, [some (vR 17), some (vR 29), some (vI x), some (vI (nx (A 18) (F 5) (a23)))], [vI 1], LAY (u (u (u A 35 (wr (A 35) x 1)) 36 (wr (A 36) x (nx (A 18) (F 5) (a23)))) 37 (wr (A 37) x v26)) (u (u F 6 a26) 7 v26), 0, 0)) hc44 7 rfl ⟨⟨by omega, by omega⟩, trivial⟩ ?_
                      refine R_retz hc44 rfl rfl (Or.inr rfl) ⟨1, wr (A 35) x 1, wr (A 36) x (nx (A 18) (F 5) (a23)), wr (A 37) x v26, a26, v26, rfl, rfl, (by (try simp only [wr_len]); omega), (by (try simp only [wr_len]); omega), (by (try simp only [wr_len]); omega), by decide, by omega, by first | omega | (have := nx_in (l := A 18) (n := F 5) (a := F 6) (by omega); omega), fun q hq => by rw [rd_wr_n (by omega) (by omega) (by omega)], fun q hq => by rw [rd_wr_n (by omega) (by omega) (by omega)], fun q hq => by rw [rd_wr_n (by omega) (by omega) (by omega)], ?_⟩
                      have ehw17 : b17 = 1 := by omega
                      rw [ehw17] at hw17
                      have hw17n : wD (A 18) (F 5) IFF (0, F 6) = (0, a17) := hw17
                      have ehw18 : b18 = 1 := by omega
                      rw [ehw18] at hw18
                      have hw18n : wD (A 18) (F 5) YY (0, a17) = (0, a18) := hw18
                      have ehw23 : b23 = 1 := by omega
                      rw [ehw23] at hw23
                      have hw23n : wD (A 18) (F 5) EAR (0, a18) = (0, a23) := hw23
                      have ehw26 : b26 = 1 := by omega
                      rw [ehw26] at hw26
                      have hw26n : dG (A 18) (F 5) 4 (0, a23 + 1) = ((0, a26), v26) := hw26
                      have hYe : eE (A 18) (F 5) 121 (0, a17) = (0, a18) := hw18n
                      have e2 : t2 (A 18) (F 5) (0, F 6) = ((0, a23), 0) := by
                        unfold t2
                        rw [hw17n]
                        rw [if_pos rfl]
                        unfold fD
                        (try dsimp only)
                        rw [if_neg (by omega), hYe]
                        rw [if_pos ⟨rfl, by (try dsimp only); omega⟩, hw23n]
                      have e3 : t3 (A 18) (F 5) (0, F 6) = (0, a23 + 1) := by
                        unfold t3
                        rw [e2]
                        rw [if_pos ⟨rfl, by (try dsimp only); omega⟩]
                      have e4 : dG (A 18) (F 5) 4 (t3 (A 18) (F 5) (0, F 6)) = ((0, a26), v26) := by
                        rw [e3]
                        exact hw26n
                      have eS : tS (A 18) (F 5) (0, F 6) = (0, a26) := by
                        unfold tS
                        rw [if_pos ⟨rfl, by (try dsimp only); omega⟩, e4]
                      have eF : tF (A 18) (F 5) (0, F 6) = 0 := by
                        unfold tF
                        rw [if_pos ⟨rfl, by (try dsimp only); omega⟩, e2]
                      have eG : tG (A 18) (F 5) (0, F 6) = nx (A 18) (F 5) (a23) := by
                        unfold tG
                        rw [e2]
                      have eH : tH (A 18) (F 5) (0, F 6) = v26 := by
                        unfold tH
                        rw [e4]
                      refine ⟨eS, fun _ => ⟨?_, .inr ⟨?_, ?_⟩⟩⟩
                      · rw [eF, ← ex, rd_wr_s (by omega) (by (try simp only [wr_len]); omega)]
                        decide
                      · rw [eG, ← ex, rd_wr_s (by omega) (by (try simp only [wr_len]); omega)]
                      · rw [eH, ← ex, rd_wr_s (by omega) (by (try simp only [wr_len]); omega)]
                    · refine R_s (P := True) (f' := (82, [some (vR 17), some (vR 29), some (vI x), some (vI (nx (A 18) (F 5) (a23)))], [vI 0], LAY (u (u (u A 37 (A 37)) 35 (wr (A 35) x 1)) 36 (wr (A 36) x (nx (A 18) (F 5) (a23)))) (u (u F 6 a26) 7 v26), 0, 0)) hc44 1 rfl trivial ?_
                      refine R_retz hc44 rfl rfl (Or.inl rfl) ⟨0, wr (A 35) x 1, wr (A 36) x (nx (A 18) (F 5) (a23)), A 37, a26, v26, rfl, rfl, (by (try simp only [wr_len]); omega), (by (try simp only [wr_len]); omega), (by (try simp only [wr_len]); omega), by decide, by omega, by first | omega | (have := nx_in (l := A 18) (n := F 5) (a := F 6) (by omega); omega), fun q hq => by rw [rd_wr_n (by omega) (by omega) (by omega)], fun q hq => by rw [rd_wr_n (by omega) (by omega) (by omega)], fun _ _ => rfl, ?_, fun z => absurd z (by decide)⟩
                      have ehw17 : b17 = 1 := by omega
                      rw [ehw17] at hw17
                      have hw17n : wD (A 18) (F 5) IFF (0, F 6) = (0, a17) := hw17
                      have ehw18 : b18 = 1 := by omega
                      rw [ehw18] at hw18
                      have hw18n : wD (A 18) (F 5) YY (0, a17) = (0, a18) := hw18
                      have ehw23 : b23 = 1 := by omega
                      rw [ehw23] at hw23
                      have hw23n : wD (A 18) (F 5) EAR (0, a18) = (0, a23) := hw23
                      have ehw26 : b26 = 0 := by omega
                      rw [ehw26] at hw26
                      have hw26n : dG (A 18) (F 5) 4 (0, a23 + 1) = ((1, a26), v26) := hw26
                      have hYe : eE (A 18) (F 5) 121 (0, a17) = (0, a18) := hw18n
                      have e2 : t2 (A 18) (F 5) (0, F 6) = ((0, a23), 0) := by
                        unfold t2
                        rw [hw17n]
                        rw [if_pos rfl]
                        unfold fD
                        (try dsimp only)
                        rw [if_neg (by omega), hYe]
                        rw [if_pos ⟨rfl, by (try dsimp only); omega⟩, hw23n]
                      have e3 : t3 (A 18) (F 5) (0, F 6) = (0, a23 + 1) := by
                        unfold t3
                        rw [e2]
                        rw [if_pos ⟨rfl, by (try dsimp only); omega⟩]
                      have e4 : dG (A 18) (F 5) 4 (t3 (A 18) (F 5) (0, F 6)) = ((1, a26), v26) := by
                        rw [e3]
                        exact hw26n
                      have eS : tS (A 18) (F 5) (0, F 6) = (1, a26) := by
                        unfold tS
                        rw [if_pos ⟨rfl, by (try dsimp only); omega⟩, e4]
                      exact eS
                  · refine R_s (P := True) (f' := (55, [some (vR 17), some (vR 29), some (vI x), some (vI (nx (A 18) (F 5) (a23)))], [vI 0], LAY (u (u (u A 36 (A 36)) 37 (A 37)) 35 (wr (A 35) x 1)) (u (u F 7 (F 7)) 6 a23), 0, 0)) hc44 1 rfl trivial ?_
                    refine R_retz hc44 rfl rfl (Or.inl rfl) ⟨0, wr (A 35) x 1, A 36, A 37, a23, F 7, rfl, rfl, (by (try simp only [wr_len]); omega), (by (try simp only [wr_len]); omega), (by (try simp only [wr_len]); omega), by decide, by omega, by first | omega | (have := nx_in (l := A 18) (n := F 5) (a := F 6) (by omega); omega), fun q hq => by rw [rd_wr_n (by omega) (by omega) (by omega)], fun _ _ => rfl, fun _ _ => rfl, ?_, fun z => absurd z (by decide)⟩
                    have ehw17 : b17 = 1 := by omega
                    rw [ehw17] at hw17
                    have hw17n : wD (A 18) (F 5) IFF (0, F 6) = (0, a17) := hw17
                    have ehw18 : b18 = 1 := by omega
                    rw [ehw18] at hw18
                    have hw18n : wD (A 18) (F 5) YY (0, a17) = (0, a18) := hw18
                    have ehw23 : b23 = 1 := by omega
                    rw [ehw23] at hw23
                    have hw23n : wD (A 18) (F 5) EAR (0, a18) = (0, a23) := hw23
                    have hYe : eE (A 18) (F 5) 121 (0, a17) = (0, a18) := hw18n
                    have e2 : t2 (A 18) (F 5) (0, F 6) = ((0, a23), 0) := by
                      unfold t2
                      rw [hw17n]
                      rw [if_pos rfl]
                      unfold fD
                      (try dsimp only)
                      rw [if_neg (by omega), hYe]
                      rw [if_pos ⟨rfl, by (try dsimp only); omega⟩, hw23n]
                    have e3 : t3 (A 18) (F 5) (0, F 6) = (1, a23) := by
                      unfold t3
                      rw [e2]
                      rw [if_neg (fun z => by have := z.2; (try dsimp only at this); omega)]
                    have e4 : dG (A 18) (F 5) 4 (t3 (A 18) (F 5) (0, F 6)) = ((1, a23), 0) := by rw [e3, dG_f]
                    have eS : tS (A 18) (F 5) (0, F 6) = (1, a23) := by
                      unfold tS
                      rw [if_pos ⟨rfl, by (try dsimp only); omega⟩, e4]
                    exact eS
            · refine R_s (P := True) (f' := (30, [some (vR 17), some (vR 29), some (vI x), none], [vI 0], LAY (u (u (u A 36 (A 36)) 37 (A 37)) 35 (wr (A 35) x 1)) (u (u F 7 (F 7)) 6 a23), 0, 0)) hc44 1 rfl trivial ?_
              refine R_retz hc44 rfl rfl (Or.inl rfl) ⟨0, wr (A 35) x 1, A 36, A 37, a23, F 7, rfl, rfl, (by (try simp only [wr_len]); omega), (by (try simp only [wr_len]); omega), (by (try simp only [wr_len]); omega), by decide, by omega, by first | omega | (have := nx_in (l := A 18) (n := F 5) (a := F 6) (by omega); omega), fun q hq => by rw [rd_wr_n (by omega) (by omega) (by omega)], fun _ _ => rfl, fun _ _ => rfl, ?_, fun z => absurd z (by decide)⟩
              have ehw17 : b17 = 1 := by omega
              rw [ehw17] at hw17
              have hw17n : wD (A 18) (F 5) IFF (0, F 6) = (0, a17) := hw17
              have ehw18 : b18 = 1 := by omega
              rw [ehw18] at hw18
              have hw18n : wD (A 18) (F 5) YY (0, a17) = (0, a18) := hw18
              have ehw23 : b23 = 0 := by omega
              rw [ehw23] at hw23
              have hw23n : wD (A 18) (F 5) EAR (0, a18) = (1, a23) := hw23
              have hYe : eE (A 18) (F 5) 121 (0, a17) = (0, a18) := hw18n
              have e2 : t2 (A 18) (F 5) (0, F 6) = ((1, a23), 0) := by
                unfold t2
                rw [hw17n]
                rw [if_pos rfl]
                unfold fD
                (try dsimp only)
                rw [if_neg (by omega), hYe]
                rw [if_pos ⟨rfl, by (try dsimp only); omega⟩, hw23n]
              have e3 : t3 (A 18) (F 5) (0, F 6) = (1, a23) := by
                unfold t3
                rw [e2]
                rw [if_neg (fun z => absurd (show (1 : Int) = 0 from z.1) (by decide))]
              have e4 : dG (A 18) (F 5) 4 (t3 (A 18) (F 5) (0, F 6)) = ((1, a23), 0) := by rw [e3, dG_f]
              have eS : tS (A 18) (F 5) (0, F 6) = (1, a23) := by
                unfold tS
                rw [if_pos ⟨rfl, by (try dsimp only); omega⟩, e4]
              exact eS
        · refine R_s (P := True) (f' := (33, [some (vR 17), some (vR 29), some (vI x), none], [vI 0], LAY (u (u (u A 35 (A 35)) 36 (A 36)) 37 (A 37)) (u (u F 7 (F 7)) 6 a18), 0, 0)) hc45 1 rfl trivial ?_
          refine R_retz hc45 rfl rfl (Or.inl rfl) ?_
          refine R_s (f' := (26, [some (vR 17), some (vR 29), some (vI x), none], [vI 0], LAY (u (u (u A 35 (A 35)) 36 (A 36)) 37 (A 37)) (u (u F 7 (F 7)) 6 a18), 0, 0)) hc44 0 rfl trivial ?_
          refine R_if (t := 31) hc44 rfl rfl (fun (z : ¬ 0 = 0) => absurd z (by decide)) (fun (_ : ¬ (¬ 0 = 0)) => ?_)
          refine R_s (P := True) (f' := (30, [some (vR 17), some (vR 29), some (vI x), none], [vI 0], LAY (u (u (u A 35 (A 35)) 36 (A 36)) 37 (A 37)) (u (u F 7 (F 7)) 6 a18), 0, 0)) hc44 1 rfl trivial ?_
          refine R_retz hc44 rfl rfl (Or.inl rfl) ⟨0, A 35, A 36, A 37, a18, F 7, rfl, rfl, (by (try simp only [wr_len]); omega), (by (try simp only [wr_len]); omega), (by (try simp only [wr_len]); omega), by decide, by omega, by first | omega | (have := nx_in (l := A 18) (n := F 5) (a := F 6) (by omega); omega), fun _ _ => rfl, fun _ _ => rfl, fun _ _ => rfl, ?_, fun z => absurd z (by decide)⟩
          have ehw17 : b17 = 1 := by omega
          rw [ehw17] at hw17
          have hw17n : wD (A 18) (F 5) IFF (0, F 6) = (0, a17) := hw17
          have ehw18 : b18 = 0 := by omega
          rw [ehw18] at hw18
          have hw18n : wD (A 18) (F 5) YY (0, a17) = (1, a18) := hw18
          have hYe : eE (A 18) (F 5) 121 (0, a17) = (1, a18) := hw18n
          have e2 : t2 (A 18) (F 5) (0, F 6) = ((1, a18), 1) := by
            unfold t2
            rw [hw17n]
            rw [if_pos rfl]
            unfold fD
            (try dsimp only)
            rw [if_neg (by omega), hYe]
            rw [if_neg (fun z => absurd (show (1 : Int) = 0 from z.1) (by decide)), wD_f]
          have e3 : t3 (A 18) (F 5) (0, F 6) = (1, a18) := by
            unfold t3
            rw [e2]
            rw [if_neg (fun z => absurd (show (1 : Int) = 0 from z.1) (by decide))]
          have e4 : dG (A 18) (F 5) 4 (t3 (A 18) (F 5) (0, F 6)) = ((1, a18), 0) := by rw [e3, dG_f]
          have eS : tS (A 18) (F 5) (0, F 6) = (1, a18) := by
            unfold tS
            rw [if_pos ⟨rfl, by (try dsimp only); omega⟩, e4]
          exact eS
      · refine R_s (P := (0 ≤ x ∧ x < ((A 35).length : Int)) ∧ True) (f' := (19, [some (vR 17), some (vR 29), some (vI x), none], [vS 3, vR 17], LAY (u (u (u A 36 (A 36)) 37 (A 37)) 35 (wr (A 35) x 3)) (u (u F 7 (F 7)) 6 a17), 0, 0)) hc45 7 rfl ⟨⟨by omega, by omega⟩, trivial⟩ ?_
        refine R_cv hc45 rfl rfl (l_word3 (A := (u (u (u A 36 (A 36)) 37 (A 37)) 35 (wr (A 35) x 3))) (F := (u (u F 7 (F 7)) 6 a17)) (LENS_u (LENS_u (LENS_u hL (by show (A 36).length = (A 36).length; omega)) (by show (A 37).length = (A 37).length; omega)) (by show (wr (A 35) x 3).length = (A 35).length; simp only [wr_len])) h5 ⟨by (show 0 ≤ a17); omega, by (show a17 ≤ F 5); omega⟩) (fun r G9 hp9 => ?_)
        obtain ⟨b27, a27, rfl, rfl, hb27, hw27, p27, q27⟩ := hp9
        have p27 : 0 ≤ a27 := p27
        have q27 : a27 ≤ F 5 := q27
        refine R_s (f' := (22, [some (vR 17), some (vR 29), some (vI x), none], [vI b27], LAY (u (u (u A 36 (A 36)) 37 (A 37)) 35 (wr (A 35) x 3)) (u (u F 7 (F 7)) 6 a27), 0, 0)) hc45 0 rfl trivial ?_
        refine R_retz hc45 rfl rfl (by omega) ?_
        refine R_s (f' := (26, [some (vR 17), some (vR 29), some (vI x), none], [vI b27], LAY (u (u (u A 36 (A 36)) 37 (A 37)) 35 (wr (A 35) x 3)) (u (u F 7 (F 7)) 6 a27), 0, 0)) hc44 0 rfl trivial ?_
        refine R_if (t := 31) hc44 rfl rfl (fun (c10 : ¬ b27 = 0) => ?_) (fun (c10 : ¬ (¬ b27 = 0)) => ?_)
        · refine R_s (P := True) (f' := (32, [some (vR 17), some (vR 29), some (vI x), none], [vR 17], LAY (u (u (u A 36 (A 36)) 37 (A 37)) 35 (wr (A 35) x 3)) (u (u F 7 (F 7)) 6 a27), 0, 0)) hc44 1 rfl trivial ?_
          refine R_cv hc44 rfl rfl (l_next (A := (u (u (u A 36 (A 36)) 37 (A 37)) 35 (wr (A 35) x 3))) (F := (u (u F 7 (F 7)) 6 a27)) (LENS_u (LENS_u (LENS_u hL (by show (A 36).length = (A 36).length; omega)) (by show (A 37).length = (A 37).length; omega)) (by show (wr (A 35) x 3).length = (A 35).length; simp only [wr_len])) h5 ⟨by (show 0 ≤ a27); omega, by (show a27 ≤ F 5); omega⟩) (fun r G9 hp9 => ?_)
          obtain ⟨e1, rfl⟩ := hp9
          have e2 : r = some (vI (nx (A 18) (F 5) (a27))) := e1
          clear e1
          subst e2
          refine R_s (f' := (35, [some (vR 17), some (vR 29), some (vI x), none], [vI (nx (A 18) (F 5) (a27))], LAY (u (u (u A 36 (A 36)) 37 (A 37)) 35 (wr (A 35) x 3)) (u (u F 7 (F 7)) 6 a27), 0, 0)) hc44 0 rfl trivial ?_
          refine R_s (P := True) (f' := (39, [some (vR 17), some (vR 29), some (vI x), some (vI (nx (A 18) (F 5) (a27)))], [vI 61, vI (nx (A 18) (F 5) (a27))], LAY (u (u (u A 36 (A 36)) 37 (A 37)) 35 (wr (A 35) x 3)) (u (u F 7 (F 7)) 6 a27), 0, 0)) hc44 3 rfl trivial ?_
          refine R_ic (t := 56) hc44 rfl rfl (fun (c11 : nx (A 18) (F 5) (a27) = 61) => ?_) (fun (c11 : ¬ (nx (A 18) (F 5) (a27) = 61)) => ?_)
          · refine R_s (P := (0 ≤ x ∧ x < ((A 36).length : Int)) ∧ inI (a27 + 1) ∧ True) (f' := (75, [some (vR 17), some (vR 29), some (vI x), some (vI (nx (A 18) (F 5) (a27)))], [vI 4, vR 17], LAY (u (u (u A 37 (A 37)) 35 (wr (A 35) x 3)) 36 (wr (A 36) x (nx (A 18) (F 5) (a27)))) (u (u F 7 (F 7)) 6 (a27 + 1)), 0, 0)) hc44 13 rfl ⟨⟨by omega, by omega⟩, ⟨by omega, by omega⟩, trivial⟩ ?_
            refine R_cv hc44 rfl rfl (l_numb (A := (u (u (u A 37 (A 37)) 35 (wr (A 35) x 3)) 36 (wr (A 36) x (nx (A 18) (F 5) (a27))))) (F := (u (u F 7 (F 7)) 6 (a27 + 1))) (LENS_u (LENS_u (LENS_u hL (by show (A 37).length = (A 37).length; omega)) (by show (wr (A 35) x 3).length = (A 35).length; simp only [wr_len])) (by show (wr (A 36) x (nx (A 18) (F 5) (a27))).length = (A 36).length; simp only [wr_len])) h5 ⟨by (show 0 ≤ a27 + 1); omega, by (have := nx_in (l := A 18) (n := F 5) (a := a27) (by omega)); (show a27 + 1 ≤ F 5); omega⟩ (kk := 4) (by decide) rfl) (fun r G9 hp9 => ?_)
            obtain ⟨b28, a28, v28, rfl, rfl, hb28, hw28, p28, q28, w28⟩ := hp9
            have p28 : 0 ≤ a28 := p28
            have q28 : a28 ≤ F 5 := q28
            refine R_s (f' := (78, [some (vR 17), some (vR 29), some (vI x), some (vI (nx (A 18) (F 5) (a27)))], [vI b28], LAY (u (u (u A 37 (A 37)) 35 (wr (A 35) x 3)) 36 (wr (A 36) x (nx (A 18) (F 5) (a27)))) (u (u F 6 a28) 7 v28), 0, 0)) hc44 0 rfl trivial ?_
            refine R_if (t := 83) hc44 rfl rfl (fun (c12 : ¬ b28 = 0) => ?_) (fun (c12 : ¬ (¬ b28 = 0)) => ?_)
            · refine R_s (P := (0 ≤ x ∧ x < ((A 37).length : Int)) ∧ True) (f' := (94, [some (vR 17), some (vR 29), some (vI x), some (vI (nx (A 18) (F 5) (a27)))], [vI 1], LAY (u (u (u A 35 (wr (A 35) x 3)) 36 (wr (A 36) x (nx (A 18) (F 5) (a27)))) 37 (wr (A 37) x v28)) (u (u F 6 a28) 7 v28), 0, 0)) hc44 7 rfl ⟨⟨by omega, by omega⟩, trivial⟩ ?_
              refine R_retz hc44 rfl rfl (Or.inr rfl) ⟨1, wr (A 35) x 3, wr (A 36) x (nx (A 18) (F 5) (a27)), wr (A 37) x v28, a28, v28, rfl, rfl, (by (try simp only [wr_len]); omega), (by (try simp only [wr_len]); omega), (by (try simp only [wr_len]); omega), by decide, by omega, by first | omega | (have := nx_in (l := A 18) (n := F 5) (a := F 6) (by omega); omega), fun q hq => by rw [rd_wr_n (by omega) (by omega) (by omega)], fun q hq => by rw [rd_wr_n (by omega) (by omega) (by omega)], fun q hq => by rw [rd_wr_n (by omega) (by omega) (by omega)], ?_⟩
              have ehw17 : b17 = 1 := by omega
              rw [ehw17] at hw17
              have hw17n : wD (A 18) (F 5) IFF (0, F 6) = (0, a17) := hw17
              have ehw27 : b27 = 1 := by omega
              rw [ehw27] at hw27
              have hw27n : wD (A 18) (F 5) ALIVE (0, a17) = (0, a27) := hw27
              have ehw28 : b28 = 1 := by omega
              rw [ehw28] at hw28
              have hw28n : dG (A 18) (F 5) 4 (0, a27 + 1) = ((0, a28), v28) := hw28
              have e2 : t2 (A 18) (F 5) (0, F 6) = ((0, a27), 2) := by
                unfold t2
                rw [hw17n]
                rw [if_pos rfl]
                unfold fD
                (try dsimp only)
                rw [if_pos (by omega), hw27n]
              have e3 : t3 (A 18) (F 5) (0, F 6) = (0, a27 + 1) := by
                unfold t3
                rw [e2]
                rw [if_pos ⟨rfl, by (try dsimp only); omega⟩]
              have e4 : dG (A 18) (F 5) 4 (t3 (A 18) (F 5) (0, F 6)) = ((0, a28), v28) := by
                rw [e3]
                exact hw28n
              have eS : tS (A 18) (F 5) (0, F 6) = (0, a28) := by
                unfold tS
                rw [if_pos ⟨rfl, by (try dsimp only); omega⟩, e4]
              have eF : tF (A 18) (F 5) (0, F 6) = 2 := by
                unfold tF
                rw [if_pos ⟨rfl, by (try dsimp only); omega⟩, e2]
              have eG : tG (A 18) (F 5) (0, F 6) = nx (A 18) (F 5) (a27) := by
                unfold tG
                rw [e2]
              have eH : tH (A 18) (F 5) (0, F 6) = v28 := by
                unfold tH
                rw [e4]
              refine ⟨eS, fun _ => ⟨?_, .inr ⟨?_, ?_⟩⟩⟩
              · rw [eF, ← ex, rd_wr_s (by omega) (by (try simp only [wr_len]); omega)]
                decide
              · rw [eG, ← ex, rd_wr_s (by omega) (by (try simp only [wr_len]); omega)]
              · rw [eH, ← ex, rd_wr_s (by omega) (by (try simp only [wr_len]); omega)]
            · refine R_s (P := True) (f' := (82, [some (vR 17), some (vR 29), some (vI x), some (vI (nx (A 18) (F 5) (a27)))], [vI 0], LAY (u (u (u A 37 (A 37)) 35 (wr (A 35) x 3)) 36 (wr (A 36) x (nx (A 18) (F 5) (a27)))) (u (u F 6 a28) 7 v28), 0, 0)) hc44 1 rfl trivial ?_
              refine R_retz hc44 rfl rfl (Or.inl rfl) ⟨0, wr (A 35) x 3, wr (A 36) x (nx (A 18) (F 5) (a27)), A 37, a28, v28, rfl, rfl, (by (try simp only [wr_len]); omega), (by (try simp only [wr_len]); omega), (by (try simp only [wr_len]); omega), by decide, by omega, by first | omega | (have := nx_in (l := A 18) (n := F 5) (a := F 6) (by omega); omega), fun q hq => by rw [rd_wr_n (by omega) (by omega) (by omega)], fun q hq => by rw [rd_wr_n (by omega) (by omega) (by omega)], fun _ _ => rfl, ?_, fun z => absurd z (by decide)⟩
              have ehw17 : b17 = 1 := by omega
              rw [ehw17] at hw17
              have hw17n : wD (A 18) (F 5) IFF (0, F 6) = (0, a17) := hw17
              have ehw27 : b27 = 1 := by omega
              rw [ehw27] at hw27
              have hw27n : wD (A 18) (F 5) ALIVE (0, a17) = (0, a27) := hw27
              have ehw28 : b28 = 0 := by omega
              rw [ehw28] at hw28
              have hw28n : dG (A 18) (F 5) 4 (0, a27 + 1) = ((1, a28), v28) := hw28
              have e2 : t2 (A 18) (F 5) (0, F 6) = ((0, a27), 2) := by
                unfold t2
                rw [hw17n]
                rw [if_pos rfl]
                unfold fD
                (try dsimp only)
                rw [if_pos (by omega), hw27n]
              have e3 : t3 (A 18) (F 5) (0, F 6) = (0, a27 + 1) := by
                unfold t3
                rw [e2]
                rw [if_pos ⟨rfl, by (try dsimp only); omega⟩]
              have e4 : dG (A 18) (F 5) 4 (t3 (A 18) (F 5) (0, F 6)) = ((1, a28), v28) := by
                rw [e3]
                exact hw28n
              have eS : tS (A 18) (F 5) (0, F 6) = (1, a28) := by
                unfold tS
                rw [if_pos ⟨rfl, by (try dsimp only); omega⟩, e4]
              exact eS
          · refine R_s (P := True) (f' := (45, [some (vR 17), some (vR 29), some (vI x), some (vI (nx (A 18) (F 5) (a27)))], [vI 60, vI (nx (A 18) (F 5) (a27))], LAY (u (u (u A 36 (A 36)) 37 (A 37)) 35 (wr (A 35) x 3)) (u (u F 7 (F 7)) 6 a27), 0, 0)) hc44 2 rfl trivial ?_
            refine R_ic (t := 56) hc44 rfl rfl (fun (c13 : nx (A 18) (F 5) (a27) = 60) => ?_) (fun (c13 : ¬ (nx (A 18) (F 5) (a27) = 60)) => ?_)
            · refine R_s (P := (0 ≤ x ∧ x < ((A 36).length : Int)) ∧ inI (a27 + 1) ∧ True) (f' := (75, [some (vR 17), some (vR 29), some (vI x), some (vI (nx (A 18) (F 5) (a27)))], [vI 4, vR 17], LAY (u (u (u A 37 (A 37)) 35 (wr (A 35) x 3)) 36 (wr (A 36) x (nx (A 18) (F 5) (a27)))) (u (u F 7 (F 7)) 6 (a27 + 1)), 0, 0)) hc44 13 rfl ⟨⟨by omega, by omega⟩, ⟨by omega, by omega⟩, trivial⟩ ?_
              refine R_cv hc44 rfl rfl (l_numb (A := (u (u (u A 37 (A 37)) 35 (wr (A 35) x 3)) 36 (wr (A 36) x (nx (A 18) (F 5) (a27))))) (F := (u (u F 7 (F 7)) 6 (a27 + 1))) (LENS_u (LENS_u (LENS_u hL (by show (A 37).length = (A 37).length; omega)) (by show (wr (A 35) x 3).length = (A 35).length; simp only [wr_len])) (by show (wr (A 36) x (nx (A 18) (F 5) (a27))).length = (A 36).length; simp only [wr_len])) h5 ⟨by (show 0 ≤ a27 + 1); omega, by (have := nx_in (l := A 18) (n := F 5) (a := a27) (by omega)); (show a27 + 1 ≤ F 5); omega⟩ (kk := 4) (by decide) rfl) (fun r G9 hp9 => ?_)
              obtain ⟨b29, a29, v29, rfl, rfl, hb29, hw29, p29, q29, w29⟩ := hp9
              have p29 : 0 ≤ a29 := p29
              have q29 : a29 ≤ F 5 := q29
              refine R_s (f' := (78, [some (vR 17), some (vR 29), some (vI x), some (vI (nx (A 18) (F 5) (a27)))], [vI b29], LAY (u (u (u A 37 (A 37)) 35 (wr (A 35) x 3)) 36 (wr (A 36) x (nx (A 18) (F 5) (a27)))) (u (u F 6 a29) 7 v29), 0, 0)) hc44 0 rfl trivial ?_
              refine R_if (t := 83) hc44 rfl rfl (fun (c14 : ¬ b29 = 0) => ?_) (fun (c14 : ¬ (¬ b29 = 0)) => ?_)
              · refine R_s (P := (0 ≤ x ∧ x < ((A 37).length : Int)) ∧ True) (f' := (94, [some (vR 17), some (vR 29), some (vI x), some (vI (nx (A 18) (F 5) (a27)))], [vI 1], LAY (u (u (u A 35 (wr (A 35) x 3)) 36 (wr (A 36) x (nx (A 18) (F 5) (a27)))) 37 (wr (A 37) x v29)) (u (u F 6 a29) 7 v29), 0, 0)) hc44 7 rfl ⟨⟨by omega, by omega⟩, trivial⟩ ?_
                refine R_retz hc44 rfl rfl (Or.inr rfl) ⟨1, wr (A 35) x 3, wr (A 36) x (nx (A 18) (F 5) (a27)), wr (A 37) x v29, a29, v29, rfl, rfl, (by (try simp only [wr_len]); omega), (by (try simp only [wr_len]); omega), (by (try simp only [wr_len]); omega), by decide, by omega, by first | omega | (have := nx_in (l := A 18) (n := F 5) (a := F 6) (by omega); omega), fun q hq => by rw [rd_wr_n (by omega) (by omega) (by omega)], fun q hq => by rw [rd_wr_n (by omega) (by omega) (by omega)], fun q hq => by rw [rd_wr_n (by omega) (by omega) (by omega)], ?_⟩
                have ehw17 : b17 = 1 := by omega
                rw [ehw17] at hw17
                have hw17n : wD (A 18) (F 5) IFF (0, F 6) = (0, a17) := hw17
                have ehw27 : b27 = 1 := by omega
                rw [ehw27] at hw27
                have hw27n : wD (A 18) (F 5) ALIVE (0, a17) = (0, a27) := hw27
                have ehw29 : b29 = 1 := by omega
                rw [ehw29] at hw29
                have hw29n : dG (A 18) (F 5) 4 (0, a27 + 1) = ((0, a29), v29) := hw29
                have e2 : t2 (A 18) (F 5) (0, F 6) = ((0, a27), 2) := by
                  unfold t2
                  rw [hw17n]
                  rw [if_pos rfl]
                  unfold fD
                  (try dsimp only)
                  rw [if_pos (by omega), hw27n]
                have e3 : t3 (A 18) (F 5) (0, F 6) = (0, a27 + 1) := by
                  unfold t3
                  rw [e2]
                  rw [if_pos ⟨rfl, by (try dsimp only); omega⟩]
                have e4 : dG (A 18) (F 5) 4 (t3 (A 18) (F 5) (0, F 6)) = ((0, a29), v29) := by
                  rw [e3]
                  exact hw29n
                have eS : tS (A 18) (F 5) (0, F 6) = (0, a29) := by
                  unfold tS
                  rw [if_pos ⟨rfl, by (try dsimp only); omega⟩, e4]
                have eF : tF (A 18) (F 5) (0, F 6) = 2 := by
                  unfold tF
                  rw [if_pos ⟨rfl, by (try dsimp only); omega⟩, e2]
                have eG : tG (A 18) (F 5) (0, F 6) = nx (A 18) (F 5) (a27) := by
                  unfold tG
                  rw [e2]
                have eH : tH (A 18) (F 5) (0, F 6) = v29 := by
                  unfold tH
                  rw [e4]
                refine ⟨eS, fun _ => ⟨?_, .inr ⟨?_, ?_⟩⟩⟩
                · rw [eF, ← ex, rd_wr_s (by omega) (by (try simp only [wr_len]); omega)]
                  decide
                · rw [eG, ← ex, rd_wr_s (by omega) (by (try simp only [wr_len]); omega)]
                · rw [eH, ← ex, rd_wr_s (by omega) (by (try simp only [wr_len]); omega)]
              · refine R_s (P := True) (f' := (82, [some (vR 17), some (vR 29), some (vI x), some (vI (nx (A 18) (F 5) (a27)))], [vI 0], LAY (u (u (u A 37 (A 37)) 35 (wr (A 35) x 3)) 36 (wr (A 36) x (nx (A 18) (F 5) (a27)))) (u (u F 6 a29) 7 v29), 0, 0)) hc44 1 rfl trivial ?_
                refine R_retz hc44 rfl rfl (Or.inl rfl) ⟨0, wr (A 35) x 3, wr (A 36) x (nx (A 18) (F 5) (a27)), A 37, a29, v29, rfl, rfl, (by (try simp only [wr_len]); omega), (by (try simp only [wr_len]); omega), (by (try simp only [wr_len]); omega), by decide, by omega, by first | omega | (have := nx_in (l := A 18) (n := F 5) (a := F 6) (by omega); omega), fun q hq => by rw [rd_wr_n (by omega) (by omega) (by omega)], fun q hq => by rw [rd_wr_n (by omega) (by omega) (by omega)], fun _ _ => rfl, ?_, fun z => absurd z (by decide)⟩
                have ehw17 : b17 = 1 := by omega
                rw [ehw17] at hw17
                have hw17n : wD (A 18) (F 5) IFF (0, F 6) = (0, a17) := hw17
                have ehw27 : b27 = 1 := by omega
                rw [ehw27] at hw27
                have hw27n : wD (A 18) (F 5) ALIVE (0, a17) = (0, a27) := hw27
                have ehw29 : b29 = 0 := by omega
                rw [ehw29] at hw29
                have hw29n : dG (A 18) (F 5) 4 (0, a27 + 1) = ((1, a29), v29) := hw29
                have e2 : t2 (A 18) (F 5) (0, F 6) = ((0, a27), 2) := by
                  unfold t2
                  rw [hw17n]
                  rw [if_pos rfl]
                  unfold fD
                  (try dsimp only)
                  rw [if_pos (by omega), hw27n]
                have e3 : t3 (A 18) (F 5) (0, F 6) = (0, a27 + 1) := by
                  unfold t3
                  rw [e2]
                  rw [if_pos ⟨rfl, by (try dsimp only); omega⟩]
                have e4 : dG (A 18) (F 5) 4 (t3 (A 18) (F 5) (0, F 6)) = ((1, a29), v29) := by
                  rw [e3]
                  exact hw29n
                have eS : tS (A 18) (F 5) (0, F 6) = (1, a29) := by
                  unfold tS
                  rw [if_pos ⟨rfl, by (try dsimp only); omega⟩, e4]
                exact eS
            · refine R_s (P := True) (f' := (51, [some (vR 17), some (vR 29), some (vI x), some (vI (nx (A 18) (F 5) (a27)))], [vI 62, vI (nx (A 18) (F 5) (a27))], LAY (u (u (u A 36 (A 36)) 37 (A 37)) 35 (wr (A 35) x 3)) (u (u F 7 (F 7)) 6 a27), 0, 0)) hc44 2 rfl trivial ?_
              refine R_ic (t := 56) hc44 rfl rfl (fun (c15 : nx (A 18) (F 5) (a27) = 62) => ?_) (fun (c15 : ¬ (nx (A 18) (F 5) (a27) = 62)) => ?_)
              · refine R_s (P := (0 ≤ x ∧ x < ((A 36).length : Int)) ∧ inI (a27 + 1) ∧ True) (f' := (75, [some (vR 17), some (vR 29), some (vI x), some (vI (nx (A 18) (F 5) (a27)))], [vI 4, vR 17], LAY (u (u (u A 37 (A 37)) 35 (wr (A 35) x 3)) 36 (wr (A 36) x (nx (A 18) (F 5) (a27)))) (u (u F 7 (F 7)) 6 (a27 + 1)), 0, 0)) hc44 13 rfl ⟨⟨by omega, by omega⟩, ⟨by omega, by omega⟩, trivial⟩ ?_
                refine R_cv hc44 rfl rfl (l_numb (A := (u (u (u A 37 (A 37)) 35 (wr (A 35) x 3)) 36 (wr (A 36) x (nx (A 18) (F 5) (a27))))) (F := (u (u F 7 (F 7)) 6 (a27 + 1))) (LENS_u (LENS_u (LENS_u hL (by show (A 37).length = (A 37).length; omega)) (by show (wr (A 35) x 3).length = (A 35).length; simp only [wr_len])) (by show (wr (A 36) x (nx (A 18) (F 5) (a27))).length = (A 36).length; simp only [wr_len])) h5 ⟨by (show 0 ≤ a27 + 1); omega, by (have := nx_in (l := A 18) (n := F 5) (a := a27) (by omega)); (show a27 + 1 ≤ F 5); omega⟩ (kk := 4) (by decide) rfl) (fun r G9 hp9 => ?_)
                obtain ⟨b30, a30, v30, rfl, rfl, hb30, hw30, p30, q30, w30⟩ := hp9
                have p30 : 0 ≤ a30 := p30
                have q30 : a30 ≤ F 5 := q30
                refine R_s (f' := (78, [some (vR 17), some (vR 29), some (vI x), some (vI (nx (A 18) (F 5) (a27)))], [vI b30], LAY (u (u (u A 37 (A 37)) 35 (wr (A 35) x 3)) 36 (wr (A 36) x (nx (A 18) (F 5) (a27)))) (u (u F 6 a30) 7 v30), 0, 0)) hc44 0 rfl trivial ?_
                refine R_if (t := 83) hc44 rfl rfl (fun (c16 : ¬ b30 = 0) => ?_) (fun (c16 : ¬ (¬ b30 = 0)) => ?_)
                · refine R_s (P := (0 ≤ x ∧ x < ((A 37).length : Int)) ∧ True) (f' := (94, [some (vR 17), some (vR 29), some (vI x), some (vI (nx (A 18) (F 5) (a27)))], [vI 1], LAY (u (u (u A 35 (wr (A 35) x 3)) 36 (wr (A 36) x (nx (A 18) (F 5) (a27)))) 37 (wr (A 37) x v30)) (u (u F 6 a30) 7 v30), 0, 0)) hc44 7 rfl ⟨⟨by omega, by omega⟩, trivial⟩ ?_
                  refine R_retz hc44 rfl rfl (Or.inr rfl) ⟨1, wr (A 35) x 3, wr (A 36) x (nx (A 18) (F 5) (a27)), wr (A 37) x v30, a30, v30, rfl, rfl, (by (try simp only [wr_len]); omega), (by (try simp only [wr_len]); omega), (by (try simp only [wr_len]); omega), by decide, by omega, by first | omega | (have := nx_in (l := A 18) (n := F 5) (a := F 6) (by omega); omega), fun q hq => by rw [rd_wr_n (by omega) (by omega) (by omega)], fun q hq => by rw [rd_wr_n (by omega) (by omega) (by omega)], fun q hq => by rw [rd_wr_n (by omega) (by omega) (by omega)], ?_⟩
                  have ehw17 : b17 = 1 := by omega
                  rw [ehw17] at hw17
                  have hw17n : wD (A 18) (F 5) IFF (0, F 6) = (0, a17) := hw17
                  have ehw27 : b27 = 1 := by omega
                  rw [ehw27] at hw27
                  have hw27n : wD (A 18) (F 5) ALIVE (0, a17) = (0, a27) := hw27
                  have ehw30 : b30 = 1 := by omega
                  rw [ehw30] at hw30
                  have hw30n : dG (A 18) (F 5) 4 (0, a27 + 1) = ((0, a30), v30) := hw30
                  have e2 : t2 (A 18) (F 5) (0, F 6) = ((0, a27), 2) := by
                    unfold t2
                    rw [hw17n]
                    rw [if_pos rfl]
                    unfold fD
                    (try dsimp only)
                    rw [if_pos (by omega), hw27n]
                  have e3 : t3 (A 18) (F 5) (0, F 6) = (0, a27 + 1) := by
                    unfold t3
                    rw [e2]
                    rw [if_pos ⟨rfl, by (try dsimp only); omega⟩]
                  have e4 : dG (A 18) (F 5) 4 (t3 (A 18) (F 5) (0, F 6)) = ((0, a30), v30) := by
                    rw [e3]
                    exact hw30n
                  have eS : tS (A 18) (F 5) (0, F 6) = (0, a30) := by
                    unfold tS
                    rw [if_pos ⟨rfl, by (try dsimp only); omega⟩, e4]
                  have eF : tF (A 18) (F 5) (0, F 6) = 2 := by
                    unfold tF
                    rw [if_pos ⟨rfl, by (try dsimp only); omega⟩, e2]
                  have eG : tG (A 18) (F 5) (0, F 6) = nx (A 18) (F 5) (a27) := by
                    unfold tG
                    rw [e2]
                  have eH : tH (A 18) (F 5) (0, F 6) = v30 := by
                    unfold tH
                    rw [e4]
                  refine ⟨eS, fun _ => ⟨?_, .inr ⟨?_, ?_⟩⟩⟩
                  · rw [eF, ← ex, rd_wr_s (by omega) (by (try simp only [wr_len]); omega)]
                    decide
                  · rw [eG, ← ex, rd_wr_s (by omega) (by (try simp only [wr_len]); omega)]
                  · rw [eH, ← ex, rd_wr_s (by omega) (by (try simp only [wr_len]); omega)]
                · refine R_s (P := True) (f' := (82, [some (vR 17), some (vR 29), some (vI x), some (vI (nx (A 18) (F 5) (a27)))], [vI 0], LAY (u (u (u A 37 (A 37)) 35 (wr (A 35) x 3)) 36 (wr (A 36) x (nx (A 18) (F 5) (a27)))) (u (u F 6 a30) 7 v30), 0, 0)) hc44 1 rfl trivial ?_
                  refine R_retz hc44 rfl rfl (Or.inl rfl) ⟨0, wr (A 35) x 3, wr (A 36) x (nx (A 18) (F 5) (a27)), A 37, a30, v30, rfl, rfl, (by (try simp only [wr_len]); omega), (by (try simp only [wr_len]); omega), (by (try simp only [wr_len]); omega), by decide, by omega, by first | omega | (have := nx_in (l := A 18) (n := F 5) (a := F 6) (by omega); omega), fun q hq => by rw [rd_wr_n (by omega) (by omega) (by omega)], fun q hq => by rw [rd_wr_n (by omega) (by omega) (by omega)], fun _ _ => rfl, ?_, fun z => absurd z (by decide)⟩
                  have ehw17 : b17 = 1 := by omega
                  rw [ehw17] at hw17
                  have hw17n : wD (A 18) (F 5) IFF (0, F 6) = (0, a17) := hw17
                  have ehw27 : b27 = 1 := by omega
                  rw [ehw27] at hw27
                  have hw27n : wD (A 18) (F 5) ALIVE (0, a17) = (0, a27) := hw27
                  have ehw30 : b30 = 0 := by omega
                  rw [ehw30] at hw30
                  have hw30n : dG (A 18) (F 5) 4 (0, a27 + 1) = ((1, a30), v30) := hw30
                  have e2 : t2 (A 18) (F 5) (0, F 6) = ((0, a27), 2) := by
                    unfold t2
                    rw [hw17n]
                    rw [if_pos rfl]
                    unfold fD
                    (try dsimp only)
                    rw [if_pos (by omega), hw27n]
                  have e3 : t3 (A 18) (F 5) (0, F 6) = (0, a27 + 1) := by
                    unfold t3
                    rw [e2]
                    rw [if_pos ⟨rfl, by (try dsimp only); omega⟩]
                  have e4 : dG (A 18) (F 5) 4 (t3 (A 18) (F 5) (0, F 6)) = ((1, a30), v30) := by
                    rw [e3]
                    exact hw30n
                  have eS : tS (A 18) (F 5) (0, F 6) = (1, a30) := by
                    unfold tS
                    rw [if_pos ⟨rfl, by (try dsimp only); omega⟩, e4]
                  exact eS
              · refine R_s (P := True) (f' := (55, [some (vR 17), some (vR 29), some (vI x), some (vI (nx (A 18) (F 5) (a27)))], [vI 0], LAY (u (u (u A 36 (A 36)) 37 (A 37)) 35 (wr (A 35) x 3)) (u (u F 7 (F 7)) 6 a27), 0, 0)) hc44 1 rfl trivial ?_
                refine R_retz hc44 rfl rfl (Or.inl rfl) ⟨0, wr (A 35) x 3, A 36, A 37, a27, F 7, rfl, rfl, (by (try simp only [wr_len]); omega), (by (try simp only [wr_len]); omega), (by (try simp only [wr_len]); omega), by decide, by omega, by first | omega | (have := nx_in (l := A 18) (n := F 5) (a := F 6) (by omega); omega), fun q hq => by rw [rd_wr_n (by omega) (by omega) (by omega)], fun _ _ => rfl, fun _ _ => rfl, ?_, fun z => absurd z (by decide)⟩
                have ehw17 : b17 = 1 := by omega
                rw [ehw17] at hw17
                have hw17n : wD (A 18) (F 5) IFF (0, F 6) = (0, a17) := hw17
                have ehw27 : b27 = 1 := by omega
                rw [ehw27] at hw27
                have hw27n : wD (A 18) (F 5) ALIVE (0, a17) = (0, a27) := hw27
                have e2 : t2 (A 18) (F 5) (0, F 6) = ((0, a27), 2) := by
                  unfold t2
                  rw [hw17n]
                  rw [if_pos rfl]
                  unfold fD
                  (try dsimp only)
                  rw [if_pos (by omega), hw27n]
                have e3 : t3 (A 18) (F 5) (0, F 6) = (1, a27) := by
                  unfold t3
                  rw [e2]
                  rw [if_neg (fun z => by have := z.2; (try dsimp only at this); omega)]
                have e4 : dG (A 18) (F 5) 4 (t3 (A 18) (F 5) (0, F 6)) = ((1, a27), 0) := by rw [e3, dG_f]
                have eS : tS (A 18) (F 5) (0, F 6) = (1, a27) := by
                  unfold tS
                  rw [if_pos ⟨rfl, by (try dsimp only); omega⟩, e4]
                exact eS
        · refine R_s (P := True) (f' := (30, [some (vR 17), some (vR 29), some (vI x), none], [vI 0], LAY (u (u (u A 36 (A 36)) 37 (A 37)) 35 (wr (A 35) x 3)) (u (u F 7 (F 7)) 6 a27), 0, 0)) hc44 1 rfl trivial ?_
          refine R_retz hc44 rfl rfl (Or.inl rfl) ⟨0, wr (A 35) x 3, A 36, A 37, a27, F 7, rfl, rfl, (by (try simp only [wr_len]); omega), (by (try simp only [wr_len]); omega), (by (try simp only [wr_len]); omega), by decide, by omega, by first | omega | (have := nx_in (l := A 18) (n := F 5) (a := F 6) (by omega); omega), fun q hq => by rw [rd_wr_n (by omega) (by omega) (by omega)], fun _ _ => rfl, fun _ _ => rfl, ?_, fun z => absurd z (by decide)⟩
          have ehw17 : b17 = 1 := by omega
          rw [ehw17] at hw17
          have hw17n : wD (A 18) (F 5) IFF (0, F 6) = (0, a17) := hw17
          have ehw27 : b27 = 0 := by omega
          rw [ehw27] at hw27
          have hw27n : wD (A 18) (F 5) ALIVE (0, a17) = (1, a27) := hw27
          have e2 : t2 (A 18) (F 5) (0, F 6) = ((1, a27), 2) := by
            unfold t2
            rw [hw17n]
            rw [if_pos rfl]
            unfold fD
            (try dsimp only)
            rw [if_pos (by omega), hw27n]
          have e3 : t3 (A 18) (F 5) (0, F 6) = (1, a27) := by
            unfold t3
            rw [e2]
            rw [if_neg (fun z => absurd (show (1 : Int) = 0 from z.1) (by decide))]
          have e4 : dG (A 18) (F 5) 4 (t3 (A 18) (F 5) (0, F 6)) = ((1, a27), 0) := by rw [e3, dG_f]
          have eS : tS (A 18) (F 5) (0, F 6) = (1, a27) := by
            unfold tS
            rw [if_pos ⟨rfl, by (try dsimp only); omega⟩, e4]
          exact eS
  · refine R_s (P := True) (f' := (10, [some (vR 17), some (vR 29), some (vI x), none], [vI 1], LAY (u (u (u A 35 (A 35)) 36 (A 36)) 37 (A 37)) (u (u F 6 (F 6)) 7 (F 7)), 0, 0)) hc44 1 rfl trivial ?_
    refine R_retz hc44 rfl rfl (Or.inr rfl) ⟨1, A 35, A 36, A 37, F 6, F 7, rfl, rfl, (by (try simp only [wr_len]); omega), (by (try simp only [wr_len]); omega), (by (try simp only [wr_len]); omega), by decide, by omega, by first | omega | (have := nx_in (l := A 18) (n := F 5) (a := F 6) (by omega); omega), fun _ _ => rfl, fun _ _ => rfl, fun _ _ => rfl, ?_, fun _ => ⟨?_, .inl ?_⟩⟩
    · unfold tS
      rw [if_neg (fun z => by have := z.2; (try dsimp only at this); omega)]
      rfl
    all_goals have e9 : tF (A 18) (F 5) (0, F 6) = -1 := by (unfold tF; rw [if_neg (fun z => by have := z.2; (try dsimp only at this); omega)])
    · rw [e9]; omega
    · exact e9

theorem l_rrest1 {A : Nat → List Int} {F : Nat → Int} (hL : LENS A) (h5 : 0 ≤ F 5 ∧ F 5 ≤ 120) (h6 : 0 ≤ F 6 ∧ F 6 ≤ F 5) {x : Int} {i : Nat} (ex : x = (i : Int)) (hi : i < 6) : R 43 (0, L0 43 [vR 17, vR 29, vI x], [], LAY A F, 0, 0) (fun r G => ∃ (c : Int) (q0 q3 : List Int) (a v : Int), r = some (vI c) ∧ G = LAY (u (u A 30 q0) 33 q3) (u (u F 6 a) 7 v) ∧ q0.length = 6 ∧ q3.length = 6 ∧ (c = 0 ∨ c = 1) ∧ 0 ≤ a ∧ a ≤ F 5 ∧ (∀ q : Nat, q ≠ i → rd q0 q = rd (A 30) q) ∧ (∀ q : Nat, q ≠ i → rd q3 q = rd (A 33) q) ∧ (hS (A 18) (F 5) (wD (A 18) (F 5) REST (0, F 6))).1 = (1 - c, a) ∧ rd q0 i = 3 ∧ (c = 1 → rd q3 i = (hS (A 18) (F 5) (wD (A 18) (F 5) REST (0, F 6))).2)) := by
  have d0 : (A 30).length = 6 := hL 30 (by decide)
  have d1 : (A 31).length = 6 := hL 31 (by decide)
  have d2 : (A 32).length = 6 := hL 32 (by decide)
  have d3 : (A 33).length = 6 := hL 33 (by decide)
  have d4 : (A 34).length = 6 := hL 34 (by decide)
  have d5 : (A 35).length = 6 := hL 35 (by decide)
  have d6 : (A 36).length = 6 := hL 36 (by decide)
  have d7 : (A 37).length = 6 := hL 37 (by decide)
  refine R_s (P := True) (f' := (0, [some (vR 17), some (vR 29), some (vI x)], [], LAY (u (u A 30 (A 30)) 33 (A 33)) (u (u F 6 (F 6)) 7 (F 7)), 0, 0)) hc43 0 rfl trivial ?_
  refine R_s (P := (0 ≤ x ∧ x < ((A 30).length : Int)) ∧ True) (f' := (10, [some (vR 17), some (vR 29), some (vI x)], [vS 12, vR 17], LAY (u (u A 33 (A 33)) 30 (wr (A 30) x 3)) (u (u F 6 (F 6)) 7 (F 7)), 0, 0)) hc43 7 rfl ⟨⟨by omega, by omega⟩, trivial⟩ ?_
  refine R_cv hc43 rfl rfl (l_word12 (A := (u (u A 33 (A 33)) 30 (wr (A 30) x 3))) (F := (u (u F 6 (F 6)) 7 (F 7))) (LENS_u (LENS_u hL (by show (A 33).length = (A 33).length; omega)) (by show (wr (A 30) x 3).length = (A 30).length; simp only [wr_len])) h5 ⟨by (show 0 ≤ F 6); omega, by (show F 6 ≤ F 5); omega⟩) (fun r G9 hp9 => ?_)
  obtain ⟨b31, a31, rfl, rfl, hb31, hw31, p31, q31⟩ := hp9
  have p31 : 0 ≤ a31 := p31
  have q31 : a31 ≤ F 5 := q31
  refine R_s (f' := (13, [some (vR 17), some (vR 29), some (vI x)], [vI b31], LAY (u (u A 33 (A 33)) 30 (wr (A 30) x 3)) (u (u F 7 (F 7)) 6 a31), 0, 0)) hc43 0 rfl trivial ?_
  refine R_if (t := 29) hc43 rfl rfl (fun (c1 : b31 = 0) => ?_) (fun (c1 : ¬ (b31 = 0)) => ?_)
  · refine R_s (P := True) (f' := (30, [some (vR 17), some (vR 29), some (vI x)], [vI 0], LAY (u (u A 33 (A 33)) 30 (wr (A 30) x 3)) (u (u F 7 (F 7)) 6 a31), 0, 0)) hc43 1 rfl trivial ?_
    refine R_retz hc43 rfl rfl (Or.inl rfl) ⟨0, wr (A 30) x 3, A 33, a31, F 7, rfl, rfl, (by (try simp only [wr_len]); omega), (by (try simp only [wr_len]); omega), by decide, by omega, by omega, fun q hq => by rw [rd_wr_n (by omega) (by omega) (by omega)], fun _ _ => rfl, ?_⟩
    have ehw31 : b31 = 0 := by omega
    rw [ehw31] at hw31
    have hw31n : wD (A 18) (F 5) REST (0, F 6) = (1, a31) := hw31
    have eS : hS (A 18) (F 5) (wD (A 18) (F 5) REST (0, F 6)) = ((1, a31), 0) := by rw [hw31n, hS_f]
    exact ⟨by rw [eS]; rfl, by rw [← ex]; exact rd_wr_s (by omega) (by omega), fun z => absurd z (by decide)⟩
  · refine R_s (P := True) (f' := (19, [some (vR 17), some (vR 29), some (vI x)], [vI x, vR 29, vR 17], LAY (u (u A 33 (A 33)) 30 (wr (A 30) x 3)) (u (u F 7 (F 7)) 6 a31), 0, 0)) hc43 3 rfl trivial ?_
    refine R_cv hc43 rfl rfl (l_rhouse1 (A := (u (u A 33 (A 33)) 30 (wr (A 30) x 3))) (F := (u (u F 7 (F 7)) 6 a31)) (LENS_u (LENS_u hL (by show (A 33).length = (A 33).length; omega)) (by show (wr (A 30) x 3).length = (A 30).length; simp only [wr_len])) h5 ⟨by (show 0 ≤ a31); omega, by (show a31 ≤ F 5); omega⟩ ex hi) (fun r G9 hp9 => ?_)
    obtain ⟨b32, h3_32, a32, v32, rfl, rfl, l32, hb32, p32, q32, kp32, h32, hw32, hv32⟩ := hp9
    have q32 : a32 ≤ F 5 := q32
    have kp32 : ∀ q : Nat, q ≠ i → rd h3_32 q = rd (A 33) q := kp32
    refine R_s (f' := (22, [some (vR 17), some (vR 29), some (vI x)], [vI b32], LAY (u (u A 30 (wr (A 30) x 3)) 33 h3_32) (u (u F 6 a32) 7 v32), 0, 0)) hc43 0 rfl trivial ?_
    refine R_if (t := 29) hc43 rfl rfl (fun (c2 : b32 = 0) => ?_) (fun (c2 : ¬ (b32 = 0)) => ?_)
    · refine R_s (P := True) (f' := (30, [some (vR 17), some (vR 29), some (vI x)], [vI 0], LAY (u (u A 30 (wr (A 30) x 3)) 33 h3_32) (u (u F 6 a32) 7 v32), 0, 0)) hc43 1 rfl trivial ?_
      refine R_retz hc43 rfl rfl (Or.inl rfl) ⟨0, wr (A 30) x 3, h3_32, a32, v32, rfl, rfl, (by (try simp only [wr_len]); omega), (by (try simp only [wr_len]); omega), by decide, by omega, by omega, fun q hq => by rw [rd_wr_n (by omega) (by omega) (by omega)], fun q hq => by rw [kp32 q hq], ?_⟩
      have ehw31 : b31 = 1 := by omega
      rw [ehw31] at hw31
      have hw31n : wD (A 18) (F 5) REST (0, F 6) = (0, a31) := hw31
      have ehw32 : b32 = 0 := by omega
      rw [ehw32] at hw32
      have hw32n : hS (A 18) (F 5) (0, a31) = ((1, a32), h32) := hw32
      have eS : hS (A 18) (F 5) (wD (A 18) (F 5) REST (0, F 6)) = ((1, a32), h32) := by rw [hw31n, hw32n]
      exact ⟨by rw [eS]; rfl, by rw [← ex]; exact rd_wr_s (by omega) (by omega), fun z => absurd z (by decide)⟩
    · refine R_s (P := True) (f' := (30, [some (vR 17), some (vR 29), some (vI x)], [vI 1], LAY (u (u A 30 (wr (A 30) x 3)) 33 h3_32) (u (u F 6 a32) 7 v32), 0, 0)) hc43 2 rfl trivial ?_
      refine R_retz hc43 rfl rfl (Or.inr rfl) ⟨1, wr (A 30) x 3, h3_32, a32, v32, rfl, rfl, (by (try simp only [wr_len]); omega), (by (try simp only [wr_len]); omega), by decide, by omega, by omega, fun q hq => by rw [rd_wr_n (by omega) (by omega) (by omega)], fun q hq => by rw [kp32 q hq], ?_⟩
      have ehw31 : b31 = 1 := by omega
      rw [ehw31] at hw31
      have hw31n : wD (A 18) (F 5) REST (0, F 6) = (0, a31) := hw31
      have ehw32 : b32 = 1 := by omega
      rw [ehw32] at hw32
      have hw32n : hS (A 18) (F 5) (0, a31) = ((0, a32), h32) := hw32
      have eS : hS (A 18) (F 5) (wD (A 18) (F 5) REST (0, F 6)) = ((0, a32), h32) := by rw [hw31n, hw32n]
      exact ⟨by rw [eS]; rfl, by rw [← ex]; exact rd_wr_s (by omega) (by omega), fun _ => by rw [eS]; exact hv32 (by omega)⟩

theorem l_rhouse2 {A : Nat → List Int} {F : Nat → Int} (hL : LENS A) (h5 : 0 ≤ F 5 ∧ F 5 ≤ 120) (h6 : 0 ≤ F 6 ∧ F 6 ≤ F 5) {x : Int} {i : Nat} (ex : x = (i : Int)) (hi : i < 6) : R 46 (0, L0 46 [vR 17, vR 38, vI x], [], LAY A F, 0, 0) (fun r G => ∃ (c : Int) (q3 : List Int) (a v : Int), r = some (vI c) ∧ G = LAY (u A 42 q3) (u (u F 6 a) 7 v) ∧ q3.length = 6 ∧ (c = 0 ∨ c = 1) ∧ 0 ≤ a ∧ a ≤ F 5 ∧ (∀ q : Nat, q ≠ i → rd q3 q = rd (A 42) q) ∧ ∃ h, hS (A 18) (F 5) (0, F 6) = ((1 - c, a), h) ∧ (c = 1 → rd q3 i = h)) := by
  have d0 : (A 39).length = 6 := hL 39 (by decide)
  have d1 : (A 40).length = 6 := hL 40 (by decide)
  have d2 : (A 41).length = 6 := hL 41 (by decide)
  have d3 : (A 42).length = 6 := hL 42 (by decide)
  have d4 : (A 43).length = 6 := hL 43 (by decide)
  have d5 : (A 44).length = 6 := hL 44 (by decide)
  have d6 : (A 45).length = 6 := hL 45 (by decide)
  have d7 : (A 46).length = 6 := hL 46 (by decide)
  refine R_s (P := True) (f' := (0, [some (vR 17), some (vR 38), some (vI x), none], [], LAY (u A 42 (A 42)) (u (u F 6 (F 6)) 7 (F 7)), 0, 0)) hc46 0 rfl trivial ?_
  refine R_s (P := True) (f' := (1, [some (vR 17), some (vR 38), some (vI x), none], [vR 17], LAY (u A 42 (A 42)) (u (u F 6 (F 6)) 7 (F 7)), 0, 0)) hc46 1 rfl trivial ?_
  refine R_cv hc46 rfl rfl (l_next (A := (u A 42 (A 42))) (F := (u (u F 6 (F 6)) 7 (F 7))) (LENS_u hL (by show (A 42).length = (A 42).length; omega)) h5 ⟨by (show 0 ≤ F 6); omega, by (show F 6 ≤ F 5); omega⟩) (fun r G9 hp9 => ?_)
  obtain ⟨e1, rfl⟩ := hp9
  have e2 : r = some (vI (nx (A 18) (F 5) (F 6))) := e1
  clear e1
  subst e2
  refine R_s (f' := (4, [some (vR 17), some (vR 38), some (vI x), none], [vI (nx (A 18) (F 5) (F 6))], LAY (u A 42 (A 42)) (u (u F 6 (F 6)) 7 (F 7)), 0, 0)) hc46 0 rfl trivial ?_
  refine R_s (P := True) (f' := (8, [some (vR 17), some (vR 38), some (vI x), some (vI (nx (A 18) (F 5) (F 6)))], [vI 97, vI (nx (A 18) (F 5) (F 6))], LAY (u A 42 (A 42)) (u (u F 6 (F 6)) 7 (F 7)), 0, 0)) hc46 3 rfl trivial ?_
  refine R_ic (t := 17) hc46 rfl rfl (fun (c1 : nx (A 18) (F 5) (F 6) < 97) => ?_) (fun (c1 : ¬ (nx (A 18) (F 5) (F 6) < 97)) => ?_)
  · refine R_s (P := True) (f' := (18, [some (vR 17), some (vR 38), some (vI x), some (vI (nx (A 18) (F 5) (F 6)))], [vI 0], LAY (u A 42 (A 42)) (u (u F 6 (F 6)) 7 (F 7)), 0, 0)) hc46 1 rfl trivial ?_
    refine R_retz hc46 rfl rfl (Or.inl rfl) ⟨0, A 42, F 6, F 7, rfl, rfl, (by (try simp only [wr_len]); omega), by decide, by omega, by omega, fun _ _ => rfl, 0, ?_, fun z => absurd z (by decide)⟩
    unfold hS
    (try dsimp only)
    rw [if_neg (fun z => by omega)]
    rfl
  · refine R_s (P := True) (f' := (14, [some (vR 17), some (vR 38), some (vI x), some (vI (nx (A 18) (F 5) (F 6)))], [vI 105, vI (nx (A 18) (F 5) (F 6))], LAY (u A 42 (A 42)) (u (u F 6 (F 6)) 7 (F 7)), 0, 0)) hc46 2 rfl trivial ?_
    refine R_ic (t := 19) hc46 rfl rfl (fun (c2 : nx (A 18) (F 5) (F 6) < 105) => ?_) (fun (c2 : ¬ (nx (A 18) (F 5) (F 6) < 105)) => ?_)
    · refine R_s (P := inI ((nx (A 18) (F 5) (F 6)) - 97) ∧ (0 ≤ x ∧ x < ((A 42).length : Int)) ∧ inI ((F 6) + 1) ∧ True) (f' := (40, [some (vR 17), some (vR 38), some (vI x), some (vI (nx (A 18) (F 5) (F 6)))], [vI 1], LAY (u A 42 (wr (A 42) x ((nx (A 18) (F 5) (F 6)) - 97))) (u (u F 7 (F 7)) 6 ((F 6) + 1)), 0, 0)) hc46 14 rfl ⟨⟨by omega, by omega⟩, ⟨by omega, by omega⟩, ⟨by omega, by omega⟩, trivial⟩ ?_
      refine R_retz hc46 rfl rfl (Or.inr rfl) ⟨1, wr (A 42) x ((nx (A 18) (F 5) (F 6)) - 97), (F 6) + 1, F 7, rfl, rfl, (by (try simp only [wr_len]); omega), by decide, by omega, by have := nx_in (l := A 18) (n := F 5) (a := F 6) (by omega); omega, fun q hq => by rw [rd_wr_n (by omega) (by omega) (by omega)], nx (A 18) (F 5) (F 6) - 97, ?_, fun _ => by rw [← ex]; exact rd_wr_s (by omega) (by omega)⟩
      unfold hS
      (try dsimp only)
      rw [if_pos ⟨rfl, by omega, by omega⟩]
      rfl
    · refine R_s (P := True) (f' := (18, [some (vR 17), some (vR 38), some (vI x), some (vI (nx (A 18) (F 5) (F 6)))], [vI 0], LAY (u A 42 (A 42)) (u (u F 6 (F 6)) 7 (F 7)), 0, 0)) hc46 1 rfl trivial ?_
      refine R_retz hc46 rfl rfl (Or.inl rfl) ⟨0, A 42, F 6, F 7, rfl, rfl, (by (try simp only [wr_len]); omega), by decide, by omega, by omega, fun _ _ => rfl, 0, ?_, fun z => absurd z (by decide)⟩
      unfold hS
      (try dsimp only)
      rw [if_neg (fun z => by omega)]
      rfl

theorem l_rtest2 {A : Nat → List Int} {F : Nat → Int} (hL : LENS A) (h5 : 0 ≤ F 5 ∧ F 5 ≤ 120) (h6 : 0 ≤ F 6 ∧ F 6 ≤ F 5) {x : Int} {i : Nat} (ex : x = (i : Int)) (hi : i < 6) (hf0 : rd (A 44) i = 0) : R 44 (0, L0 44 [vR 17, vR 38, vI x], [], LAY A F, 0, 0) (fun r G => ∃ (c : Int) (q5 q6 q7 : List Int) (a v : Int), r = some (vI c) ∧ G = LAY (u (u (u A 44 q5) 45 q6) 46 q7) (u (u F 6 a) 7 v) ∧ q5.length = 6 ∧ q6.length = 6 ∧ q7.length = 6 ∧ (c = 0 ∨ c = 1) ∧ 0 ≤ a ∧ a ≤ F 5 ∧ (∀ q : Nat, q ≠ i → rd q5 q = rd (A 44) q) ∧ (∀ q : Nat, q ≠ i → rd q6 q = rd (A 45) q) ∧ (∀ q : Nat, q ≠ i → rd q7 q = rd (A 46) q) ∧ tS (A 18) (F 5) (0, F 6) = (1 - c, a) ∧ (c = 1 → rd q5 i = tF (A 18) (F 5) (0, F 6) + 1 ∧ (tF (A 18) (F 5) (0, F 6) = -1 ∨ (rd q6 i = tG (A 18) (F 5) (0, F 6) ∧ rd q7 i = tH (A 18) (F 5) (0, F 6))))) := by
  have d0 : (A 39).length = 6 := hL 39 (by decide)
  have d1 : (A 40).length = 6 := hL 40 (by decide)
  have d2 : (A 41).length = 6 := hL 41 (by decide)
  have d3 : (A 42).length = 6 := hL 42 (by decide)
  have d4 : (A 43).length = 6 := hL 43 (by decide)
  have d5 : (A 44).length = 6 := hL 44 (by decide)
  have d6 : (A 45).length = 6 := hL 45 (by decide)
  have d7 : (A 46).length = 6 := hL 46 (by decide)
  refine R_s (P := True) (f' := (0, [some (vR 17), some (vR 38), some (vI x), none], [], LAY (u (u (u A 44 (A 44)) 45 (A 45)) 46 (A 46)) (u (u F 6 (F 6)) 7 (F 7)), 0, 0)) hc44 0 rfl trivial ?_
  refine R_s (P := True) (f' := (1, [some (vR 17), some (vR 38), some (vI x), none], [vR 17], LAY (u (u (u A 44 (A 44)) 45 (A 45)) 46 (A 46)) (u (u F 6 (F 6)) 7 (F 7)), 0, 0)) hc44 1 rfl trivial ?_
  refine R_cv hc44 rfl rfl (l_next (A := (u (u (u A 44 (A 44)) 45 (A 45)) 46 (A 46))) (F := (u (u F 6 (F 6)) 7 (F 7))) (LENS_u (LENS_u (LENS_u hL (by show (A 44).length = (A 44).length; omega)) (by show (A 45).length = (A 45).length; omega)) (by show (A 46).length = (A 46).length; omega)) h5 ⟨by (show 0 ≤ F 6); omega, by (show F 6 ≤ F 5); omega⟩) (fun r G9 hp9 => ?_)
  obtain ⟨e1, rfl⟩ := hp9
  have e2 : r = some (vI (nx (A 18) (F 5) (F 6))) := e1
  clear e1
  subst e2
  refine R_s (f' := (4, [some (vR 17), some (vR 38), some (vI x), none], [vI (nx (A 18) (F 5) (F 6))], LAY (u (u (u A 44 (A 44)) 45 (A 45)) 46 (A 46)) (u (u F 6 (F 6)) 7 (F 7)), 0, 0)) hc44 0 rfl trivial ?_
  refine R_s (P := True) (f' := (6, [some (vR 17), some (vR 38), some (vI x), none], [vI 32, vI (nx (A 18) (F 5) (F 6))], LAY (u (u (u A 44 (A 44)) 45 (A 45)) 46 (A 46)) (u (u F 6 (F 6)) 7 (F 7)), 0, 0)) hc44 1 rfl trivial ?_
  refine R_ic (t := 11) hc44 rfl rfl (fun (c1 : nx (A 18) (F 5) (F 6) = 32) => ?_) (fun (c1 : ¬ (nx (A 18) (F 5) (F 6) = 32)) => ?_)
  · refine R_s (P := True) (f' := (14, [some (vR 17), some (vR 38), some (vI x), none], [vS 2, vR 17], LAY (u (u (u A 44 (A 44)) 45 (A 45)) 46 (A 46)) (u (u F 6 (F 6)) 7 (F 7)), 0, 0)) hc44 2 rfl trivial ?_
    refine R_cv hc44 rfl rfl (l_word2 (A := (u (u (u A 44 (A 44)) 45 (A 45)) 46 (A 46))) (F := (u (u F 6 (F 6)) 7 (F 7))) (LENS_u (LENS_u (LENS_u hL (by show (A 44).length = (A 44).length; omega)) (by show (A 45).length = (A 45).length; omega)) (by show (A 46).length = (A 46).length; omega)) h5 ⟨by (show 0 ≤ F 6); omega, by (show F 6 ≤ F 5); omega⟩) (fun r G9 hp9 => ?_)
    obtain ⟨b33, a33, rfl, rfl, hb33, hw33, p33, q33⟩ := hp9
    have p33 : 0 ≤ a33 := p33
    have q33 : a33 ≤ F 5 := q33
    refine R_s (f' := (17, [some (vR 17), some (vR 38), some (vI x), none], [vI b33], LAY (u (u (u A 44 (A 44)) 45 (A 45)) 46 (A 46)) (u (u F 7 (F 7)) 6 a33), 0, 0)) hc44 0 rfl trivial ?_
    refine R_if (t := 29) hc44 rfl rfl (fun (c2 : b33 = 0) => ?_) (fun (c2 : ¬ (b33 = 0)) => ?_)
    · refine R_s (P := True) (f' := (30, [some (vR 17), some (vR 38), some (vI x), none], [vI 0], LAY (u (u (u A 44 (A 44)) 45 (A 45)) 46 (A 46)) (u (u F 7 (F 7)) 6 a33), 0, 0)) hc44 1 rfl trivial ?_
      refine R_retz hc44 rfl rfl (Or.inl rfl) ⟨0, A 44, A 45, A 46, a33, F 7, rfl, rfl, (by (try simp only [wr_len]); omega), (by (try simp only [wr_len]); omega), (by (try simp only [wr_len]); omega), by decide, by omega, by first | omega | (have := nx_in (l := A 18) (n := F 5) (a := F 6) (by omega); omega), fun _ _ => rfl, fun _ _ => rfl, fun _ _ => rfl, ?_, fun z => absurd z (by decide)⟩
      have ehw33 : b33 = 0 := by omega
      rw [ehw33] at hw33
      have hw33n : wD (A 18) (F 5) IFF (0, F 6) = (1, a33) := hw33
      have e2 : t2 (A 18) (F 5) (0, F 6) = ((1, a33), 0) := by
        unfold t2
        rw [hw33n]
        rw [if_neg (show ¬ (1 : Int) = 0 by decide)]
      have e3 : t3 (A 18) (F 5) (0, F 6) = (1, a33) := by
        unfold t3
        rw [e2]
        rw [if_neg (fun z => absurd (show (1 : Int) = 0 from z.1) (by decide))]
      have e4 : dG (A 18) (F 5) 4 (t3 (A 18) (F 5) (0, F 6)) = ((1, a33), 0) := by rw [e3, dG_f]
      have eS : tS (A 18) (F 5) (0, F 6) = (1, a33) := by
        unfold tS
        rw [if_pos ⟨rfl, by (try dsimp only); omega⟩, e4]
      exact eS
    · refine R_s (P := True) (f' := (23, [some (vR 17), some (vR 38), some (vI x), none], [vI x, vR 38, vR 17], LAY (u (u (u A 44 (A 44)) 45 (A 45)) 46 (A 46)) (u (u F 7 (F 7)) 6 a33), 0, 0)) hc44 3 rfl trivial ?_
      refine R_cv hc44 rfl rfl ?_ (fun r G h => h)
      refine R_s (P := True) (f' := (1, [some (vR 17), some (vR 38), some (vI x), none], [vR 17], LAY (u (u (u A 44 (A 44)) 45 (A 45)) 46 (A 46)) (u (u F 7 (F 7)) 6 a33), 0, 0)) hc45 1 rfl trivial ?_
      refine R_cv hc45 rfl rfl (l_next (A := (u (u (u A 44 (A 44)) 45 (A 45)) 46 (A 46))) (F := (u (u F 7 (F 7)) 6 a33)) (LENS_u (LENS_u (LENS_u hL (by show (A 44).length = (A 44).length; omega)) (by show (A 45).length = (A 45).length; omega)) (by show (A 46).length = (A 46).length; omega)) h5 ⟨by (show 0 ≤ a33); omega, by (show a33 ≤ F 5); omega⟩) (fun r G9 hp9 => ?_)
      obtain ⟨e1, rfl⟩ := hp9
      have e2 : r = some (vI (nx (A 18) (F 5) (a33))) := e1
      clear e1
      subst e2
      refine R_s (f' := (4, [some (vR 17), some (vR 38), some (vI x), none], [vI (nx (A 18) (F 5) (a33))], LAY (u (u (u A 44 (A 44)) 45 (A 45)) 46 (A 46)) (u (u F 7 (F 7)) 6 a33), 0, 0)) hc45 0 rfl trivial ?_
      refine R_s (P := True) (f' := (6, [some (vR 17), some (vR 38), some (vI x), none], [vI 97, vI (nx (A 18) (F 5) (a33))], LAY (u (u (u A 44 (A 44)) 45 (A 45)) 46 (A 46)) (u (u F 7 (F 7)) 6 a33), 0, 0)) hc45 1 rfl trivial ?_
      refine R_ic (t := 23) hc45 rfl rfl (fun (c3 : ¬ nx (A 18) (F 5) (a33) = 97) => ?_) (fun (c3 : ¬ (¬ nx (A 18) (F 5) (a33) = 97)) => ?_)
      · refine R_s (P := True) (f' := (26, [some (vR 17), some (vR 38), some (vI x), none], [vS 4, vR 17], LAY (u (u (u A 44 (A 44)) 45 (A 45)) 46 (A 46)) (u (u F 7 (F 7)) 6 a33), 0, 0)) hc45 2 rfl trivial ?_
        refine R_cv hc45 rfl rfl (l_word4 (A := (u (u (u A 44 (A 44)) 45 (A 45)) 46 (A 46))) (F := (u (u F 7 (F 7)) 6 a33)) (LENS_u (LENS_u (LENS_u hL (by show (A 44).length = (A 44).length; omega)) (by show (A 45).length = (A 45).length; omega)) (by show (A 46).length = (A 46).length; omega)) h5 ⟨by (show 0 ≤ a33); omega, by (show a33 ≤ F 5); omega⟩) (fun r G9 hp9 => ?_)
        obtain ⟨b34, a34, rfl, rfl, hb34, hw34, p34, q34⟩ := hp9
        have p34 : 0 ≤ a34 := p34
        have q34 : a34 ≤ F 5 := q34
        refine R_s (f' := (29, [some (vR 17), some (vR 38), some (vI x), none], [vI b34], LAY (u (u (u A 44 (A 44)) 45 (A 45)) 46 (A 46)) (u (u F 7 (F 7)) 6 a34), 0, 0)) hc45 0 rfl trivial ?_
        refine R_if (t := 34) hc45 rfl rfl (fun (c4 : ¬ b34 = 0) => ?_) (fun (c4 : ¬ (¬ b34 = 0)) => ?_)
        · refine R_s (P := True) (f' := (35, [some (vR 17), some (vR 38), some (vI x), none], [vR 17], LAY (u (u (u A 44 (A 44)) 45 (A 45)) 46 (A 46)) (u (u F 7 (F 7)) 6 a34), 0, 0)) hc45 1 rfl trivial ?_
          refine R_cv hc45 rfl rfl (l_next (A := (u (u (u A 44 (A 44)) 45 (A 45)) 46 (A 46))) (F := (u (u F 7 (F 7)) 6 a34)) (LENS_u (LENS_u (LENS_u hL (by show (A 44).length = (A 44).length; omega)) (by show (A 45).length = (A 45).length; omega)) (by show (A 46).length = (A 46).length; omega)) h5 ⟨by (show 0 ≤ a34); omega, by (show a34 ≤ F 5); omega⟩) (fun r G9 hp9 => ?_)
          obtain ⟨e1, rfl⟩ := hp9
          have e2 : r = some (vI (nx (A 18) (F 5) (a34))) := e1
          clear e1
          subst e2
          refine R_s (f' := (38, [some (vR 17), some (vR 38), some (vI x), none], [vI (nx (A 18) (F 5) (a34))], LAY (u (u (u A 44 (A 44)) 45 (A 45)) 46 (A 46)) (u (u F 7 (F 7)) 6 a34), 0, 0)) hc45 0 rfl trivial ?_
          refine R_s (P := True) (f' := (40, [some (vR 17), some (vR 38), some (vI x), none], [vI 101, vI (nx (A 18) (F 5) (a34))], LAY (u (u (u A 44 (A 44)) 45 (A 45)) 46 (A 46)) (u (u F 7 (F 7)) 6 a34), 0, 0)) hc45 1 rfl trivial ?_
          refine R_ic (t := 47) hc45 rfl rfl (fun (c5 : ¬ nx (A 18) (F 5) (a34) = 101) => ?_) (fun (c5 : ¬ (¬ nx (A 18) (F 5) (a34) = 101)) => ?_)
          · refine R_s (P := True) (f' := (55, [some (vR 17), some (vR 38), some (vI x), some (vI 0)], [vI 0, vI x, vR 44], LAY (u (u (u A 44 (A 44)) 45 (A 45)) 46 (A 46)) (u (u F 7 (F 7)) 6 a34), 0, 0)) hc45 6 rfl trivial ?_
            refine R_if (t := 62) hc45 rfl rfl (fun (_ : 0 = 0) => ?_) (fun (z : ¬ (0 = 0)) => absurd (by decide) z)
            refine R_s (P := (0 ≤ x ∧ x < ((A 44).length : Int)) ∧ True) (f' := (66, [some (vR 17), some (vR 38), some (vI x), some (vI 0)], [vI 0, vR 17], LAY (u (u (u A 45 (A 45)) 46 (A 46)) 44 (wr (A 44) x 2)) (u (u F 7 (F 7)) 6 a34), 0, 0)) hc45 4 rfl ⟨⟨by omega, by omega⟩, trivial⟩ ?_
            refine R_if (t := 74) hc45 rfl rfl (fun (_ : 0 = 0) => ?_) (fun (z : ¬ (0 = 0)) => absurd (by decide) z)
            refine R_s (P := True) (f' := (76, [some (vR 17), some (vR 38), some (vI x), some (vI 0)], [vS 6, vR 17], LAY (u (u (u A 45 (A 45)) 46 (A 46)) 44 (wr (A 44) x 2)) (u (u F 7 (F 7)) 6 a34), 0, 0)) hc45 1 rfl trivial ?_
            refine R_cv hc45 rfl rfl (l_word6 (A := (u (u (u A 45 (A 45)) 46 (A 46)) 44 (wr (A 44) x 2))) (F := (u (u F 7 (F 7)) 6 a34)) (LENS_u (LENS_u (LENS_u hL (by show (A 45).length = (A 45).length; omega)) (by show (A 46).length = (A 46).length; omega)) (by show (wr (A 44) x 2).length = (A 44).length; simp only [wr_len])) h5 ⟨by (show 0 ≤ a34); omega, by (show a34 ≤ F 5); omega⟩) (fun r G9 hp9 => ?_)
            obtain ⟨b35, a35, rfl, rfl, hb35, hw35, p35, q35⟩ := hp9
            have p35 : 0 ≤ a35 := p35
            have q35 : a35 ≤ F 5 := q35
            refine R_s (f' := (79, [some (vR 17), some (vR 38), some (vI x), some (vI 0)], [vI b35], LAY (u (u (u A 45 (A 45)) 46 (A 46)) 44 (wr (A 44) x 2)) (u (u F 7 (F 7)) 6 a35), 0, 0)) hc45 0 rfl trivial ?_
            refine R_retz hc45 rfl rfl (by omega) ?_
            refine R_s (f' := (26, [some (vR 17), some (vR 38), some (vI x), none], [vI b35], LAY (u (u (u A 45 (A 45)) 46 (A 46)) 44 (wr (A 44) x 2)) (u (u F 7 (F 7)) 6 a35), 0, 0)) hc44 0 rfl trivial ?_
            refine R_if (t := 31) hc44 rfl rfl (fun (c8 : ¬ b35 = 0) => ?_) (fun (c8 : ¬ (¬ b35 = 0)) => ?_)
            · refine R_s (P := True) (f' := (32, [some (vR 17), some (vR 38), some (vI x), none], [vR 17], LAY (u (u (u A 45 (A 45)) 46 (A 46)) 44 (wr (A 44) x 2)) (u (u F 7 (F 7)) 6 a35), 0, 0)) hc44 1 rfl trivial ?_
              refine R_cv hc44 rfl rfl (l_next (A := (u (u (u A 45 (A 45)) 46 (A 46)) 44 (wr (A 44) x 2))) (F := (u (u F 7 (F 7)) 6 a35)) (LENS_u (LENS_u (LENS_u hL (by show (A 45).length = (A 45).length; omega)) (by show (A 46).length = (A 46).length; omega)) (by show (wr (A 44) x 2).length = (A 44).length; simp only [wr_len])) h5 ⟨by (show 0 ≤ a35); omega, by (show a35 ≤ F 5); omega⟩) (fun r G9 hp9 => ?_)
              obtain ⟨e1, rfl⟩ := hp9
              have e2 : r = some (vI (nx (A 18) (F 5) (a35))) := e1
              clear e1
              subst e2
              refine R_s (f' := (35, [some (vR 17), some (vR 38), some (vI x), none], [vI (nx (A 18) (F 5) (a35))], LAY (u (u (u A 45 (A 45)) 46 (A 46)) 44 (wr (A 44) x 2)) (u (u F 7 (F 7)) 6 a35), 0, 0)) hc44 0 rfl trivial ?_
              refine R_s (P := True) (f' := (39, [some (vR 17), some (vR 38), some (vI x), some (vI (nx (A 18) (F 5) (a35)))], [vI 61, vI (nx (A 18) (F 5) (a35))], LAY (u (u (u A 45 (A 45)) 46 (A 46)) 44 (wr (A 44) x 2)) (u (u F 7 (F 7)) 6 a35), 0, 0)) hc44 3 rfl trivial ?_
              refine R_ic (t := 56) hc44 rfl rfl (fun (c9 : nx (A 18) (F 5) (a35) = 61) => ?_) (fun (c9 : ¬ (nx (A 18) (F 5) (a35) = 61)) => ?_)
              · refine R_s (P := (0 ≤ x ∧ x < ((A 45).length : Int)) ∧ inI (a35 + 1) ∧ True) (f' := (75, [some (vR 17), some (vR 38), some (vI x), some (vI (nx (A 18) (F 5) (a35)))], [vI 4, vR 17], LAY (u (u (u A 46 (A 46)) 44 (wr (A 44) x 2)) 45 (wr (A 45) x (nx (A 18) (F 5) (a35)))) (u (u F 7 (F 7)) 6 (a35 + 1)), 0, 0)) hc44 13 rfl ⟨⟨by omega, by omega⟩, ⟨by omega, by omega⟩, trivial⟩ ?_
                refine R_cv hc44 rfl rfl (l_numb (A := (u (u (u A 46 (A 46)) 44 (wr (A 44) x 2)) 45 (wr (A 45) x (nx (A 18) (F 5) (a35))))) (F := (u (u F 7 (F 7)) 6 (a35 + 1))) (LENS_u (LENS_u (LENS_u hL (by show (A 46).length = (A 46).length; omega)) (by show (wr (A 44) x 2).length = (A 44).length; simp only [wr_len])) (by show (wr (A 45) x (nx (A 18) (F 5) (a35))).length = (A 45).length; simp only [wr_len])) h5 ⟨by (show 0 ≤ a35 + 1); omega, by (have := nx_in (l := A 18) (n := F 5) (a := a35) (by omega)); (show a35 + 1 ≤ F 5); omega⟩ (kk := 4) (by decide) rfl) (fun r G9 hp9 => ?_)
                obtain ⟨b36, a36, v36, rfl, rfl, hb36, hw36, p36, q36, w36⟩ := hp9
                have p36 : 0 ≤ a36 := p36
                have q36 : a36 ≤ F 5 := q36
                refine R_s (f' := (78, [some (vR 17), some (vR 38), some (vI x), some (vI (nx (A 18) (F 5) (a35)))], [vI b36], LAY (u (u (u A 46 (A 46)) 44 (wr (A 44) x 2)) 45 (wr (A 45) x (nx (A 18) (F 5) (a35)))) (u (u F 6 a36) 7 v36), 0, 0)) hc44 0 rfl trivial ?_
                refine R_if (t := 83) hc44 rfl rfl (fun (c10 : ¬ b36 = 0) => ?_) (fun (c10 : ¬ (¬ b36 = 0)) => ?_)
                · refine R_s (P := (0 ≤ x ∧ x < ((A 46).length : Int)) ∧ True) (f' := (94, [some (vR 17), some (vR 38), some (vI x), some (vI (nx (A 18) (F 5) (a35)))], [vI 1], LAY (u (u (u A 44 (wr (A 44) x 2)) 45 (wr (A 45) x (nx (A 18) (F 5) (a35)))) 46 (wr (A 46) x v36)) (u (u F 6 a36) 7 v36), 0, 0)) hc44 7 rfl ⟨⟨by omega, by omega⟩, trivial⟩ ?_
                  refine R_retz hc44 rfl rfl (Or.inr rfl) ⟨1, wr (A 44) x 2, wr (A 45) x (nx (A 18) (F 5) (a35)), wr (A 46) x v36, a36, v36, rfl, rfl, (by (try simp only [wr_len]); omega), (by (try simp only [wr_len]); omega), (by (try simp only [wr_len]); omega), by decide, by omega, by first | omega | (have := nx_in (l := A 18) (n := F 5) (a := F 6) (by omega); omega), fun q hq => by rw [rd_wr_n (by omega) (by omega) (by omega)], fun q hq => by rw [rd_wr_n (by omega) (by omega) (by omega)], fun q hq => by rw [rd_wr_n (by omega) (by omega) (by omega)], ?_⟩
                  have ehw33 : b33 = 1 := by omega
                  rw [ehw33] at hw33
                  have hw33n : wD (A 18) (F 5) IFF (0, F 6) = (0, a33) := hw33
                  have ehw34 : b34 = 1 := by omega
                  rw [ehw34] at hw34
                  have hw34n : wD (A 18) (F 5) YY (0, a33) = (0, a34) := hw34
                  have ehw35 : b35 = 1 := by omega
                  rw [ehw35] at hw35
                  have hw35n : wD (A 18) (F 5) IELD (0, a34) = (0, a35) := hw35
                  have ehw36 : b36 = 1 := by omega
                  rw [ehw36] at hw36
                  have hw36n : dG (A 18) (F 5) 4 (0, a35 + 1) = ((0, a36), v36) := hw36
                  have hYe : eE (A 18) (F 5) 121 (0, a33) = (0, a34) := hw34n
                  have e2 : t2 (A 18) (F 5) (0, F 6) = ((0, a35), 1) := by
                    unfold t2
                    rw [hw33n]
                    rw [if_pos rfl]
                    unfold fD
                    (try dsimp only)
                    rw [if_neg (by omega), hYe]
                    rw [if_neg (fun z => by have := z.2; (try dsimp only at this); omega), hw35n]
                  have e3 : t3 (A 18) (F 5) (0, F 6) = (0, a35 + 1) := by
                    unfold t3
                    rw [e2]
                    rw [if_pos ⟨rfl, by (try dsimp only); omega⟩]
                  have e4 : dG (A 18) (F 5) 4 (t3 (A 18) (F 5) (0, F 6)) = ((0, a36), v36) := by
                    rw [e3]
                    exact hw36n
                  have eS : tS (A 18) (F 5) (0, F 6) = (0, a36) := by
                    unfold tS
                    rw [if_pos ⟨rfl, by (try dsimp only); omega⟩, e4]
                  have eF : tF (A 18) (F 5) (0, F 6) = 1 := by
                    unfold tF
                    rw [if_pos ⟨rfl, by (try dsimp only); omega⟩, e2]
                  have eG : tG (A 18) (F 5) (0, F 6) = nx (A 18) (F 5) (a35) := by
                    unfold tG
                    rw [e2]
                  have eH : tH (A 18) (F 5) (0, F 6) = v36 := by
                    unfold tH
                    rw [e4]
                  refine ⟨eS, fun _ => ⟨?_, .inr ⟨?_, ?_⟩⟩⟩
                  · rw [eF, ← ex, rd_wr_s (by omega) (by (try simp only [wr_len]); omega)]
                    decide
                  · rw [eG, ← ex, rd_wr_s (by omega) (by (try simp only [wr_len]); omega)]
                  · rw [eH, ← ex, rd_wr_s (by omega) (by (try simp only [wr_len]); omega)]
                · refine R_s (P := True) (f' := (82, [some (vR 17), some (vR 38), some (vI x), some (vI (nx (A 18) (F 5) (a35)))], [vI 0], LAY (u (u (u A 46 (A 46)) 44 (wr (A 44) x 2)) 45 (wr (A 45) x (nx (A 18) (F 5) (a35)))) (u (u F 6 a36) 7 v36), 0, 0)) hc44 1 rfl trivial ?_
                  refine R_retz hc44 rfl rfl (Or.inl rfl) ⟨0, wr (A 44) x 2, wr (A 45) x (nx (A 18) (F 5) (a35)), A 46, a36, v36, rfl, rfl, (by (try simp only [wr_len]); omega), (by (try simp only [wr_len]); omega), (by (try simp only [wr_len]); omega), by decide, by omega, by first | omega | (have := nx_in (l := A 18) (n := F 5) (a := F 6) (by omega); omega), fun q hq => by rw [rd_wr_n (by omega) (by omega) (by omega)], fun q hq => by rw [rd_wr_n (by omega) (by omega) (by omega)], fun _ _ => rfl, ?_, fun z => absurd z (by decide)⟩
                  have ehw33 : b33 = 1 := by omega
                  rw [ehw33] at hw33
                  have hw33n : wD (A 18) (F 5) IFF (0, F 6) = (0, a33) := hw33
                  have ehw34 : b34 = 1 := by omega
                  rw [ehw34] at hw34
                  have hw34n : wD (A 18) (F 5) YY (0, a33) = (0, a34) := hw34
                  have ehw35 : b35 = 1 := by omega
                  rw [ehw35] at hw35
                  have hw35n : wD (A 18) (F 5) IELD (0, a34) = (0, a35) := hw35
                  have ehw36 : b36 = 0 := by omega
                  rw [ehw36] at hw36
                  have hw36n : dG (A 18) (F 5) 4 (0, a35 + 1) = ((1, a36), v36) := hw36
                  have hYe : eE (A 18) (F 5) 121 (0, a33) = (0, a34) := hw34n
                  have e2 : t2 (A 18) (F 5) (0, F 6) = ((0, a35), 1) := by
                    unfold t2
                    rw [hw33n]
                    rw [if_pos rfl]
                    unfold fD
                    (try dsimp only)
                    rw [if_neg (by omega), hYe]
                    rw [if_neg (fun z => by have := z.2; (try dsimp only at this); omega), hw35n]
                  have e3 : t3 (A 18) (F 5) (0, F 6) = (0, a35 + 1) := by
                    unfold t3
                    rw [e2]
                    rw [if_pos ⟨rfl, by (try dsimp only); omega⟩]
                  have e4 : dG (A 18) (F 5) 4 (t3 (A 18) (F 5) (0, F 6)) = ((1, a36), v36) := by
                    rw [e3]
                    exact hw36n
                  have eS : tS (A 18) (F 5) (0, F 6) = (1, a36) := by
                    unfold tS
                    rw [if_pos ⟨rfl, by (try dsimp only); omega⟩, e4]
                  exact eS
              · refine R_s (P := True) (f' := (45, [some (vR 17), some (vR 38), some (vI x), some (vI (nx (A 18) (F 5) (a35)))], [vI 60, vI (nx (A 18) (F 5) (a35))], LAY (u (u (u A 45 (A 45)) 46 (A 46)) 44 (wr (A 44) x 2)) (u (u F 7 (F 7)) 6 a35), 0, 0)) hc44 2 rfl trivial ?_
                refine R_ic (t := 56) hc44 rfl rfl (fun (c11 : nx (A 18) (F 5) (a35) = 60) => ?_) (fun (c11 : ¬ (nx (A 18) (F 5) (a35) = 60)) => ?_)
                · refine R_s (P := (0 ≤ x ∧ x < ((A 45).length : Int)) ∧ inI (a35 + 1) ∧ True) (f' := (75, [some (vR 17), some (vR 38), some (vI x), some (vI (nx (A 18) (F 5) (a35)))], [vI 4, vR 17], LAY (u (u (u A 46 (A 46)) 44 (wr (A 44) x 2)) 45 (wr (A 45) x (nx (A 18) (F 5) (a35)))) (u (u F 7 (F 7)) 6 (a35 + 1)), 0, 0)) hc44 13 rfl ⟨⟨by omega, by omega⟩, ⟨by omega, by omega⟩, trivial⟩ ?_
                  refine R_cv hc44 rfl rfl (l_numb (A := (u (u (u A 46 (A 46)) 44 (wr (A 44) x 2)) 45 (wr (A 45) x (nx (A 18) (F 5) (a35))))) (F := (u (u F 7 (F 7)) 6 (a35 + 1))) (LENS_u (LENS_u (LENS_u hL (by show (A 46).length = (A 46).length; omega)) (by show (wr (A 44) x 2).length = (A 44).length; simp only [wr_len])) (by show (wr (A 45) x (nx (A 18) (F 5) (a35))).length = (A 45).length; simp only [wr_len])) h5 ⟨by (show 0 ≤ a35 + 1); omega, by (have := nx_in (l := A 18) (n := F 5) (a := a35) (by omega)); (show a35 + 1 ≤ F 5); omega⟩ (kk := 4) (by decide) rfl) (fun r G9 hp9 => ?_)
                  obtain ⟨b37, a37, v37, rfl, rfl, hb37, hw37, p37, q37, w37⟩ := hp9
                  have p37 : 0 ≤ a37 := p37
                  have q37 : a37 ≤ F 5 := q37
                  refine R_s (f' := (78, [some (vR 17), some (vR 38), some (vI x), some (vI (nx (A 18) (F 5) (a35)))], [vI b37], LAY (u (u (u A 46 (A 46)) 44 (wr (A 44) x 2)) 45 (wr (A 45) x (nx (A 18) (F 5) (a35)))) (u (u F 6 a37) 7 v37), 0, 0)) hc44 0 rfl trivial ?_
                  refine R_if (t := 83) hc44 rfl rfl (fun (c12 : ¬ b37 = 0) => ?_) (fun (c12 : ¬ (¬ b37 = 0)) => ?_)
                  · refine R_s (P := (0 ≤ x ∧ x < ((A 46).length : Int)) ∧ True) (f' := (94, [some (vR 17), some (vR 38), some (vI x), some (vI (nx (A 18) (F 5) (a35)))], [vI 1], LAY (u (u (u A 44 (wr (A 44) x 2)) 45 (wr (A 45) x (nx (A 18) (F 5) (a35)))) 46 (wr (A 46) x v37)) (u (u F 6 a37) 7 v37), 0, 0)) hc44 7 rfl ⟨⟨by omega, by omega⟩, trivial⟩ ?_
                    refine R_retz hc44 rfl rfl (Or.inr rfl) ⟨1, wr (A 44) x 2, wr (A 45) x (nx (A 18) (F 5) (a35)), wr (A 46) x v37, a37, v37, rfl, rfl, (by (try simp only [wr_len]); omega), (by (try simp only [wr_len]); omega), (by (try simp only [wr_len]); omega), by decide, by omega, by first | omega | (have := nx_in (l := A 18) (n := F 5) (a := F 6) (by omega); omega), fun q hq => by rw [rd_wr_n (by omega) (by omega) (by omega)], fun q hq => by rw [rd_wr_n (by omega) (by omega) (by omega)], fun q hq => by rw [rd_wr_n (by omega) (by omega) (by omega)], ?_⟩
                    have ehw33 : b33 = 1 := by omega
                    rw [ehw33] at hw33
                    have hw33n : wD (A 18) (F 5) IFF (0, F 6) = (0, a33) := hw33
                    have ehw34 : b34 = 1 := by omega
                    rw [ehw34] at hw34
                    have hw34n : wD (A 18) (F 5) YY (0, a33) = (0, a34) := hw34
                    have ehw35 : b35 = 1 := by omega
                    rw [ehw35] at hw35
                    have hw35n : wD (A 18) (F 5) IELD (0, a34) = (0, a35) := hw35
                    have ehw37 : b37 = 1 := by omega
                    rw [ehw37] at hw37
                    have hw37n : dG (A 18) (F 5) 4 (0, a35 + 1) = ((0, a37), v37) := hw37
                    have hYe : eE (A 18) (F 5) 121 (0, a33) = (0, a34) := hw34n
                    have e2 : t2 (A 18) (F 5) (0, F 6) = ((0, a35), 1) := by
                      unfold t2
                      rw [hw33n]
                      rw [if_pos rfl]
                      unfold fD
                      (try dsimp only)
                      rw [if_neg (by omega), hYe]
                      rw [if_neg (fun z => by have := z.2; (try dsimp only at this); omega), hw35n]
                    have e3 : t3 (A 18) (F 5) (0, F 6) = (0, a35 + 1) := by
                      unfold t3
                      rw [e2]
                      rw [if_pos ⟨rfl, by (try dsimp only); omega⟩]
                    have e4 : dG (A 18) (F 5) 4 (t3 (A 18) (F 5) (0, F 6)) = ((0, a37), v37) := by
                      rw [e3]
                      exact hw37n
                    have eS : tS (A 18) (F 5) (0, F 6) = (0, a37) := by
                      unfold tS
                      rw [if_pos ⟨rfl, by (try dsimp only); omega⟩, e4]
                    have eF : tF (A 18) (F 5) (0, F 6) = 1 := by
                      unfold tF
                      rw [if_pos ⟨rfl, by (try dsimp only); omega⟩, e2]
                    have eG : tG (A 18) (F 5) (0, F 6) = nx (A 18) (F 5) (a35) := by
                      unfold tG
                      rw [e2]
                    have eH : tH (A 18) (F 5) (0, F 6) = v37 := by
                      unfold tH
                      rw [e4]
                    refine ⟨eS, fun _ => ⟨?_, .inr ⟨?_, ?_⟩⟩⟩
                    · rw [eF, ← ex, rd_wr_s (by omega) (by (try simp only [wr_len]); omega)]
                      decide
                    · rw [eG, ← ex, rd_wr_s (by omega) (by (try simp only [wr_len]); omega)]
                    · rw [eH, ← ex, rd_wr_s (by omega) (by (try simp only [wr_len]); omega)]
                  · refine R_s (P := True) (f' := (82, [some (vR 17), some (vR 38), some (vI x), some (vI (nx (A 18) (F 5) (a35)))], [vI 0], LAY (u (u (u A 46 (A 46)) 44 (wr (A 44) x 2)) 45 (wr (A 45) x (nx (A 18) (F 5) (a35)))) (u (u F 6 a37) 7 v37), 0, 0)) hc44 1 rfl trivial ?_
                    refine R_retz hc44 rfl rfl (Or.inl rfl) ⟨0, wr (A 44) x 2, wr (A 45) x (nx (A 18) (F 5) (a35)), A 46, a37, v37, rfl, rfl, (by (try simp only [wr_len]); omega), (by (try simp only [wr_len]); omega), (by (try simp only [wr_len]); omega), by decide, by omega, by first | omega | (have := nx_in (l := A 18) (n := F 5) (a := F 6) (by omega); omega), fun q hq => by rw [rd_wr_n (by omega) (by omega) (by omega)], fun q hq => by rw [rd_wr_n (by omega) (by omega) (by omega)], fun _ _ => rfl, ?_, fun z => absurd z (by decide)⟩
                    have ehw33 : b33 = 1 := by omega
                    rw [ehw33] at hw33
                    have hw33n : wD (A 18) (F 5) IFF (0, F 6) = (0, a33) := hw33
                    have ehw34 : b34 = 1 := by omega
                    rw [ehw34] at hw34
                    have hw34n : wD (A 18) (F 5) YY (0, a33) = (0, a34) := hw34
                    have ehw35 : b35 = 1 := by omega
                    rw [ehw35] at hw35
                    have hw35n : wD (A 18) (F 5) IELD (0, a34) = (0, a35) := hw35
                    have ehw37 : b37 = 0 := by omega
                    rw [ehw37] at hw37
                    have hw37n : dG (A 18) (F 5) 4 (0, a35 + 1) = ((1, a37), v37) := hw37
                    have hYe : eE (A 18) (F 5) 121 (0, a33) = (0, a34) := hw34n
                    have e2 : t2 (A 18) (F 5) (0, F 6) = ((0, a35), 1) := by
                      unfold t2
                      rw [hw33n]
                      rw [if_pos rfl]
                      unfold fD
                      (try dsimp only)
                      rw [if_neg (by omega), hYe]
                      rw [if_neg (fun z => by have := z.2; (try dsimp only at this); omega), hw35n]
                    have e3 : t3 (A 18) (F 5) (0, F 6) = (0, a35 + 1) := by
                      unfold t3
                      rw [e2]
                      rw [if_pos ⟨rfl, by (try dsimp only); omega⟩]
                    have e4 : dG (A 18) (F 5) 4 (t3 (A 18) (F 5) (0, F 6)) = ((1, a37), v37) := by
                      rw [e3]
                      exact hw37n
                    have eS : tS (A 18) (F 5) (0, F 6) = (1, a37) := by
                      unfold tS
                      rw [if_pos ⟨rfl, by (try dsimp only); omega⟩, e4]
                    exact eS
                · refine R_s (P := True) (f' := (51, [some (vR 17), some (vR 38), some (vI x), some (vI (nx (A 18) (F 5) (a35)))], [vI 62, vI (nx (A 18) (F 5) (a35))], LAY (u (u (u A 45 (A 45)) 46 (A 46)) 44 (wr (A 44) x 2)) (u (u F 7 (F 7)) 6 a35), 0, 0)) hc44 2 rfl trivial ?_
                  refine R_ic (t := 56) hc44 rfl rfl (fun (c13 : nx (A 18) (F 5) (a35) = 62) => ?_) (fun (c13 : ¬ (nx (A 18) (F 5) (a35) = 62)) => ?_)
                  · refine R_s (P := (0 ≤ x ∧ x < ((A 45).length : Int)) ∧ inI (a35 + 1) ∧ True) (f' := (75, [some (vR 17), some (vR 38), some (vI x), some (vI (nx (A 18) (F 5) (a35)))], [vI 4, vR 17], LAY (u (u (u A 46 (A 46)) 44 (wr (A 44) x 2)) 45 (wr (A 45) x (nx (A 18) (F 5) (a35)))) (u (u F 7 (F 7)) 6 (a35 + 1)), 0, 0)) hc44 13 rfl ⟨⟨by omega, by omega⟩, ⟨by omega, by omega⟩, trivial⟩ ?_
                    refine R_cv hc44 rfl rfl (l_numb (A := (u (u (u A 46 (A 46)) 44 (wr (A 44) x 2)) 45 (wr (A 45) x (nx (A 18) (F 5) (a35))))) (F := (u (u F 7 (F 7)) 6 (a35 + 1))) (LENS_u (LENS_u (LENS_u hL (by show (A 46).length = (A 46).length; omega)) (by show (wr (A 44) x 2).length = (A 44).length; simp only [wr_len])) (by show (wr (A 45) x (nx (A 18) (F 5) (a35))).length = (A 45).length; simp only [wr_len])) h5 ⟨by (show 0 ≤ a35 + 1); omega, by (have := nx_in (l := A 18) (n := F 5) (a := a35) (by omega)); (show a35 + 1 ≤ F 5); omega⟩ (kk := 4) (by decide) rfl) (fun r G9 hp9 => ?_)
                    obtain ⟨b38, a38, v38, rfl, rfl, hb38, hw38, p38, q38, w38⟩ := hp9
                    have p38 : 0 ≤ a38 := p38
                    have q38 : a38 ≤ F 5 := q38
                    refine R_s (f' := (78, [some (vR 17), some (vR 38), some (vI x), some (vI (nx (A 18) (F 5) (a35)))], [vI b38], LAY (u (u (u A 46 (A 46)) 44 (wr (A 44) x 2)) 45 (wr (A 45) x (nx (A 18) (F 5) (a35)))) (u (u F 6 a38) 7 v38), 0, 0)) hc44 0 rfl trivial ?_
                    refine R_if (t := 83) hc44 rfl rfl (fun (c14 : ¬ b38 = 0) => ?_) (fun (c14 : ¬ (¬ b38 = 0)) => ?_)
                    · refine R_s (P := (0 ≤ x ∧ x < ((A 46).length : Int)) ∧ True) (f' := (94, [some (vR 17), some (vR 38), some (vI x), some (vI (nx (A 18) (F 5) (a35)))], [vI 1], LAY (u (u (u A 44 (wr (A 44) x 2)) 45 (wr (A 45) x (nx (A 18) (F 5) (a35)))) 46 (wr (A 46) x v38)) (u (u F 6 a38) 7 v38), 0, 0)) hc44 7 rfl ⟨⟨by omega, by omega⟩, trivial⟩ ?_
                      refine R_retz hc44 rfl rfl (Or.inr rfl) ⟨1, wr (A 44) x 2, wr (A 45) x (nx (A 18) (F 5) (a35)), wr (A 46) x v38, a38, v38, rfl, rfl, (by (try simp only [wr_len]); omega), (by (try simp only [wr_len]); omega), (by (try simp only [wr_len]); omega), by decide, by omega, by first | omega | (have := nx_in (l := A 18) (n := F 5) (a := F 6) (by omega); omega), fun q hq => by rw [rd_wr_n (by omega) (by omega) (by omega)], fun q hq => by rw [rd_wr_n (by omega) (by omega) (by omega)], fun q hq => by rw [rd_wr_n (by omega) (by omega) (by omega)], ?_⟩
                      have ehw33 : b33 = 1 := by omega
                      rw [ehw33] at hw33
                      have hw33n : wD (A 18) (F 5) IFF (0, F 6) = (0, a33) := hw33
                      have ehw34 : b34 = 1 := by omega
                      rw [ehw34] at hw34
                      have hw34n : wD (A 18) (F 5) YY (0, a33) = (0, a34) := hw34
                      have ehw35 : b35 = 1 := by omega
                      rw [ehw35] at hw35
                      have hw35n : wD (A 18) (F 5) IELD (0, a34) = (0, a35) := hw35
                      have ehw38 : b38 = 1 := by omega
                      rw [ehw38] at hw38
                      have hw38n : dG (A 18) (F 5) 4 (0, a35 + 1) = ((0, a38), v38) := hw38
                      have hYe : eE (A 18) (F 5) 121 (0, a33) = (0, a34) := hw34n
                      have e2 : t2 (A 18) (F 5) (0, F 6) = ((0, a35), 1) := by
                        unfold t2
                        rw [hw33n]
                        rw [if_pos rfl]
                        unfold fD
                        (try dsimp only)
                        rw [if_neg (by omega), hYe]
                        rw [if_neg (fun z => by have := z.2; (try dsimp only at this); omega), hw35n]
                      have e3 : t3 (A 18) (F 5) (0, F 6) = (0, a35 + 1) := by
                        unfold t3
                        rw [e2]
                        rw [if_pos ⟨rfl, by (try dsimp only); omega⟩]
                      have e4 : dG (A 18) (F 5) 4 (t3 (A 18) (F 5) (0, F 6)) = ((0, a38), v38) := by
                        rw [e3]
                        exact hw38n
                      have eS : tS (A 18) (F 5) (0, F 6) = (0, a38) := by
                        unfold tS
                        rw [if_pos ⟨rfl, by (try dsimp only); omega⟩, e4]
                      have eF : tF (A 18) (F 5) (0, F 6) = 1 := by
                        unfold tF
                        rw [if_pos ⟨rfl, by (try dsimp only); omega⟩, e2]
                      have eG : tG (A 18) (F 5) (0, F 6) = nx (A 18) (F 5) (a35) := by
                        unfold tG
                        rw [e2]
                      have eH : tH (A 18) (F 5) (0, F 6) = v38 := by
                        unfold tH
                        rw [e4]
                      refine ⟨eS, fun _ => ⟨?_, .inr ⟨?_, ?_⟩⟩⟩
                      · rw [eF, ← ex, rd_wr_s (by omega) (by (try simp only [wr_len]); omega)]
                        decide
                      · rw [eG, ← ex, rd_wr_s (by omega) (by (try simp only [wr_len]); omega)]
                      · rw [eH, ← ex, rd_wr_s (by omega) (by (try simp only [wr_len]); omega)]
                    · refine R_s (P := True) (f' := (82, [some (vR 17), some (vR 38), some (vI x), some (vI (nx (A 18) (F 5) (a35)))], [vI 0], LAY (u (u (u A 46 (A 46)) 44 (wr (A 44) x 2)) 45 (wr (A 45) x (nx (A 18) (F 5) (a35)))) (u (u F 6 a38) 7 v38), 0, 0)) hc44 1 rfl trivial ?_
                      refine R_retz hc44 rfl rfl (Or.inl rfl) ⟨0, wr (A 44) x 2, wr (A 45) x (nx (A 18) (F 5) (a35)), A 46, a38, v38, rfl, rfl, (by (try simp only [wr_len]); omega), (by (try simp only [wr_len]); omega), (by (try simp only [wr_len]); omega), by decide, by omega, by first | omega | (have := nx_in (l := A 18) (n := F 5) (a := F 6) (by omega); omega), fun q hq => by rw [rd_wr_n (by omega) (by omega) (by omega)], fun q hq => by rw [rd_wr_n (by omega) (by omega) (by omega)], fun _ _ => rfl, ?_, fun z => absurd z (by decide)⟩
                      have ehw33 : b33 = 1 := by omega
                      rw [ehw33] at hw33
                      have hw33n : wD (A 18) (F 5) IFF (0, F 6) = (0, a33) := hw33
                      have ehw34 : b34 = 1 := by omega
                      rw [ehw34] at hw34
                      have hw34n : wD (A 18) (F 5) YY (0, a33) = (0, a34) := hw34
                      have ehw35 : b35 = 1 := by omega
                      rw [ehw35] at hw35
                      have hw35n : wD (A 18) (F 5) IELD (0, a34) = (0, a35) := hw35
                      have ehw38 : b38 = 0 := by omega
                      rw [ehw38] at hw38
                      have hw38n : dG (A 18) (F 5) 4 (0, a35 + 1) = ((1, a38), v38) := hw38
                      have hYe : eE (A 18) (F 5) 121 (0, a33) = (0, a34) := hw34n
                      have e2 : t2 (A 18) (F 5) (0, F 6) = ((0, a35), 1) := by
                        unfold t2
                        rw [hw33n]
                        rw [if_pos rfl]
                        unfold fD
                        (try dsimp only)
                        rw [if_neg (by omega), hYe]
                        rw [if_neg (fun z => by have := z.2; (try dsimp only at this); omega), hw35n]
                      have e3 : t3 (A 18) (F 5) (0, F 6) = (0, a35 + 1) := by
                        unfold t3
                        rw [e2]
                        rw [if_pos ⟨rfl, by (try dsimp only); omega⟩]
                      have e4 : dG (A 18) (F 5) 4 (t3 (A 18) (F 5) (0, F 6)) = ((1, a38), v38) := by
                        rw [e3]
                        exact hw38n
                      have eS : tS (A 18) (F 5) (0, F 6) = (1, a38) := by
                        unfold tS
                        rw [if_pos ⟨rfl, by (try dsimp only); omega⟩, e4]
                      exact eS
                  · refine R_s (P := True) (f' := (55, [some (vR 17), some (vR 38), some (vI x), some (vI (nx (A 18) (F 5) (a35)))], [vI 0], LAY (u (u (u A 45 (A 45)) 46 (A 46)) 44 (wr (A 44) x 2)) (u (u F 7 (F 7)) 6 a35), 0, 0)) hc44 1 rfl trivial ?_
                    refine R_retz hc44 rfl rfl (Or.inl rfl) ⟨0, wr (A 44) x 2, A 45, A 46, a35, F 7, rfl, rfl, (by (try simp only [wr_len]); omega), (by (try simp only [wr_len]); omega), (by (try simp only [wr_len]); omega), by decide, by omega, by first | omega | (have := nx_in (l := A 18) (n := F 5) (a := F 6) (by omega); omega), fun q hq => by rw [rd_wr_n (by omega) (by omega) (by omega)], fun _ _ => rfl, fun _ _ => rfl, ?_, fun z => absurd z (by decide)⟩
                    have ehw33 : b33 = 1 := by omega
                    rw [ehw33] at hw33
                    have hw33n : wD (A 18) (F 5) IFF (0, F 6) = (0, a33) := hw33
                    have ehw34 : b34 = 1 := by omega
                    rw [ehw34] at hw34
                    have hw34n : wD (A 18) (F 5) YY (0, a33) = (0, a34) := hw34
                    have ehw35 : b35 = 1 := by omega
                    rw [ehw35] at hw35
                    have hw35n : wD (A 18) (F 5) IELD (0, a34) = (0, a35) := hw35
                    have hYe : eE (A 18) (F 5) 121 (0, a33) = (0, a34) := hw34n
                    have e2 : t2 (A 18) (F 5) (0, F 6) = ((0, a35), 1) := by
                      unfold t2
                      rw [hw33n]
                      rw [if_pos rfl]
                      unfold fD
                      (try dsimp only)
                      rw [if_neg (by omega), hYe]
                      rw [if_neg (fun z => by have := z.2; (try dsimp only at this); omega), hw35n]
                    have e3 : t3 (A 18) (F 5) (0, F 6) = (1, a35) := by
                      unfold t3
                      rw [e2]
                      rw [if_neg (fun z => by have := z.2; (try dsimp only at this); omega)]
                    have e4 : dG (A 18) (F 5) 4 (t3 (A 18) (F 5) (0, F 6)) = ((1, a35), 0) := by rw [e3, dG_f]
                    have eS : tS (A 18) (F 5) (0, F 6) = (1, a35) := by
                      unfold tS
                      rw [if_pos ⟨rfl, by (try dsimp only); omega⟩, e4]
                    exact eS
            · refine R_s (P := True) (f' := (30, [some (vR 17), some (vR 38), some (vI x), none], [vI 0], LAY (u (u (u A 45 (A 45)) 46 (A 46)) 44 (wr (A 44) x 2)) (u (u F 7 (F 7)) 6 a35), 0, 0)) hc44 1 rfl trivial ?_
              refine R_retz hc44 rfl rfl (Or.inl rfl) ⟨0, wr (A 44) x 2, A 45, A 46, a35, F 7, rfl, rfl, (by (try simp only [wr_len]); omega), (by (try simp only [wr_len]); omega), (by (try simp only [wr_len]); omega), by decide, by omega, by first | omega | (have := nx_in (l := A 18) (n := F 5) (a := F 6) (by omega); omega), fun q hq => by rw [rd_wr_n (by omega) (by omega) (by omega)], fun _ _ => rfl, fun _ _ => rfl, ?_, fun z => absurd z (by decide)⟩
              have ehw33 : b33 = 1 := by omega
              rw [ehw33] at hw33
              have hw33n : wD (A 18) (F 5) IFF (0, F 6) = (0, a33) := hw33
              have ehw34 : b34 = 1 := by omega
              rw [ehw34] at hw34
              have hw34n : wD (A 18) (F 5) YY (0, a33) = (0, a34) := hw34
              have ehw35 : b35 = 0 := by omega
              rw [ehw35] at hw35
              have hw35n : wD (A 18) (F 5) IELD (0, a34) = (1, a35) := hw35
              have hYe : eE (A 18) (F 5) 121 (0, a33) = (0, a34) := hw34n
              have e2 : t2 (A 18) (F 5) (0, F 6) = ((1, a35), 1) := by
                unfold t2
                rw [hw33n]
                rw [if_pos rfl]
                unfold fD
                (try dsimp only)
                rw [if_neg (by omega), hYe]
                rw [if_neg (fun z => by have := z.2; (try dsimp only at this); omega), hw35n]
              have e3 : t3 (A 18) (F 5) (0, F 6) = (1, a35) := by
                unfold t3
                rw [e2]
                rw [if_neg (fun z => absurd (show (1 : Int) = 0 from z.1) (by decide))]
              have e4 : dG (A 18) (F 5) 4 (t3 (A 18) (F 5) (0, F 6)) = ((1, a35), 0) := by rw [e3, dG_f]
              have eS : tS (A 18) (F 5) (0, F 6) = (1, a35) := by
                unfold tS
                rw [if_pos ⟨rfl, by (try dsimp only); omega⟩, e4]
              exact eS
          · refine R_s (P := True) (f' := (55, [some (vR 17), some (vR 38), some (vI x), some (vI 1)], [vI 1, vI x, vR 44], LAY (u (u (u A 44 (A 44)) 45 (A 45)) 46 (A 46)) (u (u F 7 (F 7)) 6 a34), 0, 0)) hc45 7 rfl trivial ?_
            refine R_if (t := 62) hc45 rfl rfl (fun (z : 1 = 0) => absurd z (by decide)) (fun (_ : ¬ (1 = 0)) => ?_)
            refine R_s (P := (0 ≤ x ∧ x < ((A 44).length : Int)) ∧ True) (f' := (66, [some (vR 17), some (vR 38), some (vI x), some (vI 1)], [vI 1, vR 17], LAY (u (u (u A 45 (A 45)) 46 (A 46)) 44 (wr (A 44) x 1)) (u (u F 7 (F 7)) 6 a34), 0, 0)) hc45 5 rfl ⟨⟨by omega, by omega⟩, trivial⟩ ?_
            refine R_if (t := 74) hc45 rfl rfl (fun (z : 1 = 0) => absurd z (by decide)) (fun (_ : ¬ (1 = 0)) => ?_)
            refine R_s (P := True) (f' := (76, [some (vR 17), some (vR 38), some (vI x), some (vI 1)], [vS 5, vR 17], LAY (u (u (u A 45 (A 45)) 46 (A 46)) 44 (wr (A 44) x 1)) (u (u F 7 (F 7)) 6 a34), 0, 0)) hc45 2 rfl trivial ?_
            refine R_cv hc45 rfl rfl (l_word5 (A := (u (u (u A 45 (A 45)) 46 (A 46)) 44 (wr (A 44) x 1))) (F := (u (u F 7 (F 7)) 6 a34)) (LENS_u (LENS_u (LENS_u hL (by show (A 45).length = (A 45).length; omega)) (by show (A 46).length = (A 46).length; omega)) (by show (wr (A 44) x 1).length = (A 44).length; simp only [wr_len])) h5 ⟨by (show 0 ≤ a34); omega, by (show a34 ≤ F 5); omega⟩) (fun r G9 hp9 => ?_)
            obtain ⟨b39, a39, rfl, rfl, hb39, hw39, p39, q39⟩ := hp9
            have p39 : 0 ≤ a39 := p39
            have q39 : a39 ≤ F 5 := q39
            refine R_s (f' := (79, [some (vR 17), some (vR 38), some (vI x), some (vI 1)], [vI b39], LAY (u (u (u A 45 (A 45)) 46 (A 46)) 44 (wr (A 44) x 1)) (u (u F 7 (F 7)) 6 a39), 0, 0)) hc45 0 rfl trivial ?_
            refine R_retz hc45 rfl rfl (by omega) ?_
            refine R_s (f' := (26, [some (vR 17), some (vR 38), some (vI x), none], [vI b39], LAY (u (u (u A 45 (A 45)) 46 (A 46)) 44 (wr (A 44) x 1)) (u (u F 7 (F 7)) 6 a39), 0, 0)) hc44 0 rfl trivial ?_
            refine R_if (t := 31) hc44 rfl rfl (fun (c10 : ¬ b39 = 0) => ?_) (fun (c10 : ¬ (¬ b39 = 0)) => ?_)
            · refine R_s (P := True) (f' := (32, [some (vR 17), some (vR 38), some (vI x), none], [vR 17], LAY (u (u (u A 45 (A 45)) 46 (A 46)) 44 (wr (A 44) x 1)) (u (u F 7 (F 7)) 6 a39), 0, 0)) hc44 1 rfl trivial ?_
              refine R_cv hc44 rfl rfl (l_next (A := (u (u (u A 45 (A 45)) 46 (A 46)) 44 (wr (A 44) x 1))) (F := (u (u F 7 (F 7)) 6 a39)) (LENS_u (LENS_u (LENS_u hL (by show (A 45).length = (A 45).length; omega)) (by show (A 46).length = (A 46).length; omega)) (by show (wr (A 44) x 1).length = (A 44).length; simp only [wr_len])) h5 ⟨by (show 0 ≤ a39); omega, by (show a39 ≤ F 5); omega⟩) (fun r G9 hp9 => ?_)
              obtain ⟨e1, rfl⟩ := hp9
              have e2 : r = some (vI (nx (A 18) (F 5) (a39))) := e1
              clear e1
              subst e2
              refine R_s (f' := (35, [some (vR 17), some (vR 38), some (vI x), none], [vI (nx (A 18) (F 5) (a39))], LAY (u (u (u A 45 (A 45)) 46 (A 46)) 44 (wr (A 44) x 1)) (u (u F 7 (F 7)) 6 a39), 0, 0)) hc44 0 rfl trivial ?_
              refine R_s (P := True) (f' := (39, [some (vR 17), some (vR 38), some (vI x), some (vI (nx (A 18) (F 5) (a39)))], [vI 61, vI (nx (A 18) (F 5) (a39))], LAY (u (u (u A 45 (A 45)) 46 (A 46)) 44 (wr (A 44) x 1)) (u (u F 7 (F 7)) 6 a39), 0, 0)) hc44 3 rfl trivial ?_
              refine R_ic (t := 56) hc44 rfl rfl (fun (c11 : nx (A 18) (F 5) (a39) = 61) => ?_) (fun (c11 : ¬ (nx (A 18) (F 5) (a39) = 61)) => ?_)
              · refine R_s (P := (0 ≤ x ∧ x < ((A 45).length : Int)) ∧ inI (a39 + 1) ∧ True) (f' := (75, [some (vR 17), some (vR 38), some (vI x), some (vI (nx (A 18) (F 5) (a39)))], [vI 4, vR 17], LAY (u (u (u A 46 (A 46)) 44 (wr (A 44) x 1)) 45 (wr (A 45) x (nx (A 18) (F 5) (a39)))) (u (u F 7 (F 7)) 6 (a39 + 1)), 0, 0)) hc44 13 rfl ⟨⟨by omega, by omega⟩, ⟨by omega, by omega⟩, trivial⟩ ?_
                refine R_cv hc44 rfl rfl (l_numb (A := (u (u (u A 46 (A 46)) 44 (wr (A 44) x 1)) 45 (wr (A 45) x (nx (A 18) (F 5) (a39))))) (F := (u (u F 7 (F 7)) 6 (a39 + 1))) (LENS_u (LENS_u (LENS_u hL (by show (A 46).length = (A 46).length; omega)) (by show (wr (A 44) x 1).length = (A 44).length; simp only [wr_len])) (by show (wr (A 45) x (nx (A 18) (F 5) (a39))).length = (A 45).length; simp only [wr_len])) h5 ⟨by (show 0 ≤ a39 + 1); omega, by (have := nx_in (l := A 18) (n := F 5) (a := a39) (by omega)); (show a39 + 1 ≤ F 5); omega⟩ (kk := 4) (by decide) rfl) (fun r G9 hp9 => ?_)
                obtain ⟨b40, a40, v40, rfl, rfl, hb40, hw40, p40, q40, w40⟩ := hp9
                have p40 : 0 ≤ a40 := p40
                have q40 : a40 ≤ F 5 := q40
                refine R_s (f' := (78, [some (vR 17), some (vR 38), some (vI x), some (vI (nx (A 18) (F 5) (a39)))], [vI b40], LAY (u (u (u A 46 (A 46)) 44 (wr (A 44) x 1)) 45 (wr (A 45) x (nx (A 18) (F 5) (a39)))) (u (u F 6 a40) 7 v40), 0, 0)) hc44 0 rfl trivial ?_
                refine R_if (t := 83) hc44 rfl rfl (fun (c12 : ¬ b40 = 0) => ?_) (fun (c12 : ¬ (¬ b40 = 0)) => ?_)
                · refine R_s (P := (0 ≤ x ∧ x < ((A 46).length : Int)) ∧ True) (f' := (94, [some (vR 17), some (vR 38), some (vI x), some (vI (nx (A 18) (F 5) (a39)))], [vI 1], LAY (u (u (u A 44 (wr (A 44) x 1)) 45 (wr (A 45) x (nx (A 18) (F 5) (a39)))) 46 (wr (A 46) x v40)) (u (u F 6 a40) 7 v40), 0, 0)) hc44 7 rfl ⟨⟨by omega, by omega⟩, trivial⟩ ?_
                  refine R_retz hc44 rfl rfl (Or.inr rfl) ⟨1, wr (A 44) x 1, wr (A 45) x (nx (A 18) (F 5) (a39)), wr (A 46) x v40, a40, v40, rfl, rfl, (by (try simp only [wr_len]); omega), (by (try simp only [wr_len]); omega), (by (try simp only [wr_len]); omega), by decide, by omega, by first | omega | (have := nx_in (l := A 18) (n := F 5) (a := F 6) (by omega); omega), fun q hq => by rw [rd_wr_n (by omega) (by omega) (by omega)], fun q hq => by rw [rd_wr_n (by omega) (by omega) (by omega)], fun q hq => by rw [rd_wr_n (by omega) (by omega) (by omega)], ?_⟩
                  have ehw33 : b33 = 1 := by omega
                  rw [ehw33] at hw33
                  have hw33n : wD (A 18) (F 5) IFF (0, F 6) = (0, a33) := hw33
                  have ehw34 : b34 = 1 := by omega
                  rw [ehw34] at hw34
                  have hw34n : wD (A 18) (F 5) YY (0, a33) = (0, a34) := hw34
                  have ehw39 : b39 = 1 := by omega
                  rw [ehw39] at hw39
                  have hw39n : wD (A 18) (F 5) EAR (0, a34) = (0, a39) := hw39
                  have ehw40 : b40 = 1 := by omega
                  rw [ehw40] at hw40
                  have hw40n : dG (A 18) (F 5) 4 (0, a39 + 1) = ((0, a40), v40) := hw40
                  have hYe : eE (A 18) (F 5) 121 (0, a33) = (0, a34) := hw34n
                  have e2 : t2 (A 18) (F 5) (0, F 6) = ((0, a39), 0) := by
                    unfold t2
                    rw [hw33n]
                    rw [if_pos rfl]
                    unfold fD
                    (try dsimp only)
                    rw [if_neg (by omega), hYe]
                    rw [if_pos ⟨rfl, by (try dsimp only); omega⟩, hw39n]
                  have e3 : t3 (A 18) (F 5) (0, F 6) = (0, a39 + 1) := by
                    unfold t3
                    rw [e2]
                    rw [if_pos ⟨rfl, by (try dsimp only); omega⟩]
                  have e4 : dG (A 18) (F 5) 4 (t3 (A 18) (F 5) (0, F 6)) = ((0, a40), v40) := by
                    rw [e3]
                    exact hw40n
                  have eS : tS (A 18) (F 5) (0, F 6) = (0, a40) := by
                    unfold tS
                    rw [if_pos ⟨rfl, by (try dsimp only); omega⟩, e4]
                  have eF : tF (A 18) (F 5) (0, F 6) = 0 := by
                    unfold tF
                    rw [if_pos ⟨rfl, by (try dsimp only); omega⟩, e2]
                  have eG : tG (A 18) (F 5) (0, F 6) = nx (A 18) (F 5) (a39) := by
                    unfold tG
                    rw [e2]
                  have eH : tH (A 18) (F 5) (0, F 6) = v40 := by
                    unfold tH
                    rw [e4]
                  refine ⟨eS, fun _ => ⟨?_, .inr ⟨?_, ?_⟩⟩⟩
                  · rw [eF, ← ex, rd_wr_s (by omega) (by (try simp only [wr_len]); omega)]
                    decide
                  · rw [eG, ← ex, rd_wr_s (by omega) (by (try simp only [wr_len]); omega)]
                  · rw [eH, ← ex, rd_wr_s (by omega) (by (try simp only [wr_len]); omega)]
                · refine R_s (P := True) (f' := (82, [some (vR 17), some (vR 38), some (vI x), some (vI (nx (A 18) (F 5) (a39)))], [vI 0], LAY (u (u (u A 46 (A 46)) 44 (wr (A 44) x 1)) 45 (wr (A 45) x (nx (A 18) (F 5) (a39)))) (u (u F 6 a40) 7 v40), 0, 0)) hc44 1 rfl trivial ?_
                  refine R_retz hc44 rfl rfl (Or.inl rfl) ⟨0, wr (A 44) x 1, wr (A 45) x (nx (A 18) (F 5) (a39)), A 46, a40, v40, rfl, rfl, (by (try simp only [wr_len]); omega), (by (try simp only [wr_len]); omega), (by (try simp only [wr_len]); omega), by decide, by omega, by first | omega | (have := nx_in (l := A 18) (n := F 5) (a := F 6) (by omega); omega), fun q hq => by rw [rd_wr_n (by omega) (by omega) (by omega)], fun q hq => by rw [rd_wr_n (by omega) (by omega) (by omega)], fun _ _ => rfl, ?_, fun z => absurd z (by decide)⟩
                  have ehw33 : b33 = 1 := by omega
                  rw [ehw33] at hw33
                  have hw33n : wD (A 18) (F 5) IFF (0, F 6) = (0, a33) := hw33
                  have ehw34 : b34 = 1 := by omega
                  rw [ehw34] at hw34
                  have hw34n : wD (A 18) (F 5) YY (0, a33) = (0, a34) := hw34
                  have ehw39 : b39 = 1 := by omega
                  rw [ehw39] at hw39
                  have hw39n : wD (A 18) (F 5) EAR (0, a34) = (0, a39) := hw39
                  have ehw40 : b40 = 0 := by omega
                  rw [ehw40] at hw40
                  have hw40n : dG (A 18) (F 5) 4 (0, a39 + 1) = ((1, a40), v40) := hw40
                  have hYe : eE (A 18) (F 5) 121 (0, a33) = (0, a34) := hw34n
                  have e2 : t2 (A 18) (F 5) (0, F 6) = ((0, a39), 0) := by
                    unfold t2
                    rw [hw33n]
                    rw [if_pos rfl]
                    unfold fD
                    (try dsimp only)
                    rw [if_neg (by omega), hYe]
                    rw [if_pos ⟨rfl, by (try dsimp only); omega⟩, hw39n]
                  have e3 : t3 (A 18) (F 5) (0, F 6) = (0, a39 + 1) := by
                    unfold t3
                    rw [e2]
                    rw [if_pos ⟨rfl, by (try dsimp only); omega⟩]
                  have e4 : dG (A 18) (F 5) 4 (t3 (A 18) (F 5) (0, F 6)) = ((1, a40), v40) := by
                    rw [e3]
                    exact hw40n
                  have eS : tS (A 18) (F 5) (0, F 6) = (1, a40) := by
                    unfold tS
                    rw [if_pos ⟨rfl, by (try dsimp only); omega⟩, e4]
                  exact eS
              · refine R_s (P := True) (f' := (45, [some (vR 17), some (vR 38), some (vI x), some (vI (nx (A 18) (F 5) (a39)))], [vI 60, vI (nx (A 18) (F 5) (a39))], LAY (u (u (u A 45 (A 45)) 46 (A 46)) 44 (wr (A 44) x 1)) (u (u F 7 (F 7)) 6 a39), 0, 0)) hc44 2 rfl trivial ?_
                refine R_ic (t := 56) hc44 rfl rfl (fun (c13 : nx (A 18) (F 5) (a39) = 60) => ?_) (fun (c13 : ¬ (nx (A 18) (F 5) (a39) = 60)) => ?_)
                · refine R_s (P := (0 ≤ x ∧ x < ((A 45).length : Int)) ∧ inI (a39 + 1) ∧ True) (f' := (75, [some (vR 17), some (vR 38), some (vI x), some (vI (nx (A 18) (F 5) (a39)))], [vI 4, vR 17], LAY (u (u (u A 46 (A 46)) 44 (wr (A 44) x 1)) 45 (wr (A 45) x (nx (A 18) (F 5) (a39)))) (u (u F 7 (F 7)) 6 (a39 + 1)), 0, 0)) hc44 13 rfl ⟨⟨by omega, by omega⟩, ⟨by omega, by omega⟩, trivial⟩ ?_
                  refine R_cv hc44 rfl rfl (l_numb (A := (u (u (u A 46 (A 46)) 44 (wr (A 44) x 1)) 45 (wr (A 45) x (nx (A 18) (F 5) (a39))))) (F := (u (u F 7 (F 7)) 6 (a39 + 1))) (LENS_u (LENS_u (LENS_u hL (by show (A 46).length = (A 46).length; omega)) (by show (wr (A 44) x 1).length = (A 44).length; simp only [wr_len])) (by show (wr (A 45) x (nx (A 18) (F 5) (a39))).length = (A 45).length; simp only [wr_len])) h5 ⟨by (show 0 ≤ a39 + 1); omega, by (have := nx_in (l := A 18) (n := F 5) (a := a39) (by omega)); (show a39 + 1 ≤ F 5); omega⟩ (kk := 4) (by decide) rfl) (fun r G9 hp9 => ?_)
                  obtain ⟨b41, a41, v41, rfl, rfl, hb41, hw41, p41, q41, w41⟩ := hp9
                  have p41 : 0 ≤ a41 := p41
                  have q41 : a41 ≤ F 5 := q41
                  refine R_s (f' := (78, [some (vR 17), some (vR 38), some (vI x), some (vI (nx (A 18) (F 5) (a39)))], [vI b41], LAY (u (u (u A 46 (A 46)) 44 (wr (A 44) x 1)) 45 (wr (A 45) x (nx (A 18) (F 5) (a39)))) (u (u F 6 a41) 7 v41), 0, 0)) hc44 0 rfl trivial ?_
                  refine R_if (t := 83) hc44 rfl rfl (fun (c14 : ¬ b41 = 0) => ?_) (fun (c14 : ¬ (¬ b41 = 0)) => ?_)
                  · refine R_s (P := (0 ≤ x ∧ x < ((A 46).length : Int)) ∧ True) (f' := (94, [some (vR 17), some (vR 38), some (vI x), some (vI (nx (A 18) (F 5) (a39)))], [vI 1], LAY (u (u (u A 44 (wr (A 44) x 1)) 45 (wr (A 45) x (nx (A 18) (F 5) (a39)))) 46 (wr (A 46) x v41)) (u (u F 6 a41) 7 v41), 0, 0)) hc44 7 rfl ⟨⟨by omega, by omega⟩, trivial⟩ ?_
                    refine R_retz hc44 rfl rfl (Or.inr rfl) ⟨1, wr (A 44) x 1, wr (A 45) x (nx (A 18) (F 5) (a39)), wr (A 46) x v41, a41, v41, rfl, rfl, (by (try simp only [wr_len]); omega), (by (try simp only [wr_len]); omega), (by (try simp only [wr_len]); omega), by decide, by omega, by first | omega | (have := nx_in (l := A 18) (n := F 5) (a := F 6) (by omega); omega), fun q hq => by rw [rd_wr_n (by omega) (by omega) (by omega)], fun q hq => by rw [rd_wr_n (by omega) (by omega) (by omega)], fun q hq => by rw [rd_wr_n (by omega) (by omega) (by omega)], ?_⟩
                    have ehw33 : b33 = 1 := by omega
                    rw [ehw33] at hw33
                    have hw33n : wD (A 18) (F 5) IFF (0, F 6) = (0, a33) := hw33
                    have ehw34 : b34 = 1 := by omega
                    rw [ehw34] at hw34
                    have hw34n : wD (A 18) (F 5) YY (0, a33) = (0, a34) := hw34
                    have ehw39 : b39 = 1 := by omega
                    rw [ehw39] at hw39
                    have hw39n : wD (A 18) (F 5) EAR (0, a34) = (0, a39) := hw39
                    have ehw41 : b41 = 1 := by omega
                    rw [ehw41] at hw41
                    have hw41n : dG (A 18) (F 5) 4 (0, a39 + 1) = ((0, a41), v41) := hw41
                    have hYe : eE (A 18) (F 5) 121 (0, a33) = (0, a34) := hw34n
                    have e2 : t2 (A 18) (F 5) (0, F 6) = ((0, a39), 0) := by
                      unfold t2
                      rw [hw33n]
                      rw [if_pos rfl]
                      unfold fD
                      (try dsimp only)
                      rw [if_neg (by omega), hYe]
                      rw [if_pos ⟨rfl, by (try dsimp only); omega⟩, hw39n]
                    have e3 : t3 (A 18) (F 5) (0, F 6) = (0, a39 + 1) := by
                      unfold t3
                      rw [e2]
                      rw [if_pos ⟨rfl, by (try dsimp only); omega⟩]
                    have e4 : dG (A 18) (F 5) 4 (t3 (A 18) (F 5) (0, F 6)) = ((0, a41), v41) := by
                      rw [e3]
                      exact hw41n
                    have eS : tS (A 18) (F 5) (0, F 6) = (0, a41) := by
                      unfold tS
                      rw [if_pos ⟨rfl, by (try dsimp only); omega⟩, e4]
                    have eF : tF (A 18) (F 5) (0, F 6) = 0 := by
                      unfold tF
                      rw [if_pos ⟨rfl, by (try dsimp only); omega⟩, e2]
                    have eG : tG (A 18) (F 5) (0, F 6) = nx (A 18) (F 5) (a39) := by
                      unfold tG
                      rw [e2]
                    have eH : tH (A 18) (F 5) (0, F 6) = v41 := by
                      unfold tH
                      rw [e4]
                    refine ⟨eS, fun _ => ⟨?_, .inr ⟨?_, ?_⟩⟩⟩
                    · rw [eF, ← ex, rd_wr_s (by omega) (by (try simp only [wr_len]); omega)]
                      decide
                    · rw [eG, ← ex, rd_wr_s (by omega) (by (try simp only [wr_len]); omega)]
                    · rw [eH, ← ex, rd_wr_s (by omega) (by (try simp only [wr_len]); omega)]
                  · refine R_s (P := True) (f' := (82, [some (vR 17), some (vR 38), some (vI x), some (vI (nx (A 18) (F 5) (a39)))], [vI 0], LAY (u (u (u A 46 (A 46)) 44 (wr (A 44) x 1)) 45 (wr (A 45) x (nx (A 18) (F 5) (a39)))) (u (u F 6 a41) 7 v41), 0, 0)) hc44 1 rfl trivial ?_
                    refine R_retz hc44 rfl rfl (Or.inl rfl) ⟨0, wr (A 44) x 1, wr (A 45) x (nx (A 18) (F 5) (a39)), A 46, a41, v41, rfl, rfl, (by (try simp only [wr_len]); omega), (by (try simp only [wr_len]); omega), (by (try simp only [wr_len]); omega), by decide, by omega, by first | omega | (have := nx_in (l := A 18) (n := F 5) (a := F 6) (by omega); omega), fun q hq => by rw [rd_wr_n (by omega) (by omega) (by omega)], fun q hq => by rw [rd_wr_n (by omega) (by omega) (by omega)], fun _ _ => rfl, ?_, fun z => absurd z (by decide)⟩
                    have ehw33 : b33 = 1 := by omega
                    rw [ehw33] at hw33
                    have hw33n : wD (A 18) (F 5) IFF (0, F 6) = (0, a33) := hw33
                    have ehw34 : b34 = 1 := by omega
                    rw [ehw34] at hw34
                    have hw34n : wD (A 18) (F 5) YY (0, a33) = (0, a34) := hw34
                    have ehw39 : b39 = 1 := by omega
                    rw [ehw39] at hw39
                    have hw39n : wD (A 18) (F 5) EAR (0, a34) = (0, a39) := hw39
                    have ehw41 : b41 = 0 := by omega
                    rw [ehw41] at hw41
                    have hw41n : dG (A 18) (F 5) 4 (0, a39 + 1) = ((1, a41), v41) := hw41
                    have hYe : eE (A 18) (F 5) 121 (0, a33) = (0, a34) := hw34n
                    have e2 : t2 (A 18) (F 5) (0, F 6) = ((0, a39), 0) := by
                      unfold t2
                      rw [hw33n]
                      rw [if_pos rfl]
                      unfold fD
                      (try dsimp only)
                      rw [if_neg (by omega), hYe]
                      rw [if_pos ⟨rfl, by (try dsimp only); omega⟩, hw39n]
                    have e3 : t3 (A 18) (F 5) (0, F 6) = (0, a39 + 1) := by
                      unfold t3
                      rw [e2]
                      rw [if_pos ⟨rfl, by (try dsimp only); omega⟩]
                    have e4 : dG (A 18) (F 5) 4 (t3 (A 18) (F 5) (0, F 6)) = ((1, a41), v41) := by
                      rw [e3]
                      exact hw41n
                    have eS : tS (A 18) (F 5) (0, F 6) = (1, a41) := by
                      unfold tS
                      rw [if_pos ⟨rfl, by (try dsimp only); omega⟩, e4]
                    exact eS
                · refine R_s (P := True) (f' := (51, [some (vR 17), some (vR 38), some (vI x), some (vI (nx (A 18) (F 5) (a39)))], [vI 62, vI (nx (A 18) (F 5) (a39))], LAY (u (u (u A 45 (A 45)) 46 (A 46)) 44 (wr (A 44) x 1)) (u (u F 7 (F 7)) 6 a39), 0, 0)) hc44 2 rfl trivial ?_
                  refine R_ic (t := 56) hc44 rfl rfl (fun (c15 : nx (A 18) (F 5) (a39) = 62) => ?_) (fun (c15 : ¬ (nx (A 18) (F 5) (a39) = 62)) => ?_)
                  · refine R_s (P := (0 ≤ x ∧ x < ((A 45).length : Int)) ∧ inI (a39 + 1) ∧ True) (f' := (75, [some (vR 17), some (vR 38), some (vI x), some (vI (nx (A 18) (F 5) (a39)))], [vI 4, vR 17], LAY (u (u (u A 46 (A 46)) 44 (wr (A 44) x 1)) 45 (wr (A 45) x (nx (A 18) (F 5) (a39)))) (u (u F 7 (F 7)) 6 (a39 + 1)), 0, 0)) hc44 13 rfl ⟨⟨by omega, by omega⟩, ⟨by omega, by omega⟩, trivial⟩ ?_
                    refine R_cv hc44 rfl rfl (l_numb (A := (u (u (u A 46 (A 46)) 44 (wr (A 44) x 1)) 45 (wr (A 45) x (nx (A 18) (F 5) (a39))))) (F := (u (u F 7 (F 7)) 6 (a39 + 1))) (LENS_u (LENS_u (LENS_u hL (by show (A 46).length = (A 46).length; omega)) (by show (wr (A 44) x 1).length = (A 44).length; simp only [wr_len])) (by show (wr (A 45) x (nx (A 18) (F 5) (a39))).length = (A 45).length; simp only [wr_len])) h5 ⟨by (show 0 ≤ a39 + 1); omega, by (have := nx_in (l := A 18) (n := F 5) (a := a39) (by omega)); (show a39 + 1 ≤ F 5); omega⟩ (kk := 4) (by decide) rfl) (fun r G9 hp9 => ?_)
                    obtain ⟨b42, a42, v42, rfl, rfl, hb42, hw42, p42, q42, w42⟩ := hp9
                    have p42 : 0 ≤ a42 := p42
                    have q42 : a42 ≤ F 5 := q42
                    refine R_s (f' := (78, [some (vR 17), some (vR 38), some (vI x), some (vI (nx (A 18) (F 5) (a39)))], [vI b42], LAY (u (u (u A 46 (A 46)) 44 (wr (A 44) x 1)) 45 (wr (A 45) x (nx (A 18) (F 5) (a39)))) (u (u F 6 a42) 7 v42), 0, 0)) hc44 0 rfl trivial ?_
                    refine R_if (t := 83) hc44 rfl rfl (fun (c16 : ¬ b42 = 0) => ?_) (fun (c16 : ¬ (¬ b42 = 0)) => ?_)
                    · refine R_s (P := (0 ≤ x ∧ x < ((A 46).length : Int)) ∧ True) (f' := (94, [some (vR 17), some (vR 38), some (vI x), some (vI (nx (A 18) (F 5) (a39)))], [vI 1], LAY (u (u (u A 44 (wr (A 44) x 1)) 45 (wr (A 45) x (nx (A 18) (F 5) (a39)))) 46 (wr (A 46) x v42)) (u (u F 6 a42) 7 v42), 0, 0)) hc44 7 rfl ⟨⟨by omega, by omega⟩, trivial⟩ ?_
                      refine R_retz hc44 rfl rfl (Or.inr rfl) ⟨1, wr (A 44) x 1, wr (A 45) x (nx (A 18) (F 5) (a39)), wr (A 46) x v42, a42, v42, rfl, rfl, (by (try simp only [wr_len]); omega), (by (try simp only [wr_len]); omega), (by (try simp only [wr_len]); omega), by decide, by omega, by first | omega | (have := nx_in (l := A 18) (n := F 5) (a := F 6) (by omega); omega), fun q hq => by rw [rd_wr_n (by omega) (by omega) (by omega)], fun q hq => by rw [rd_wr_n (by omega) (by omega) (by omega)], fun q hq => by rw [rd_wr_n (by omega) (by omega) (by omega)], ?_⟩
                      have ehw33 : b33 = 1 := by omega
                      rw [ehw33] at hw33
                      have hw33n : wD (A 18) (F 5) IFF (0, F 6) = (0, a33) := hw33
                      have ehw34 : b34 = 1 := by omega
                      rw [ehw34] at hw34
                      have hw34n : wD (A 18) (F 5) YY (0, a33) = (0, a34) := hw34
                      have ehw39 : b39 = 1 := by omega
                      rw [ehw39] at hw39
                      have hw39n : wD (A 18) (F 5) EAR (0, a34) = (0, a39) := hw39
                      have ehw42 : b42 = 1 := by omega
                      rw [ehw42] at hw42
                      have hw42n : dG (A 18) (F 5) 4 (0, a39 + 1) = ((0, a42), v42) := hw42
                      have hYe : eE (A 18) (F 5) 121 (0, a33) = (0, a34) := hw34n
                      have e2 : t2 (A 18) (F 5) (0, F 6) = ((0, a39), 0) := by
                        unfold t2
                        rw [hw33n]
                        rw [if_pos rfl]
                        unfold fD
                        (try dsimp only)
                        rw [if_neg (by omega), hYe]
                        rw [if_pos ⟨rfl, by (try dsimp only); omega⟩, hw39n]
                      have e3 : t3 (A 18) (F 5) (0, F 6) = (0, a39 + 1) := by
                        unfold t3
                        rw [e2]
                        rw [if_pos ⟨rfl, by (try dsimp only); omega⟩]
                      have e4 : dG (A 18) (F 5) 4 (t3 (A 18) (F 5) (0, F 6)) = ((0, a42), v42) := by
                        rw [e3]
                        exact hw42n
                      have eS : tS (A 18) (F 5) (0, F 6) = (0, a42) := by
                        unfold tS
                        rw [if_pos ⟨rfl, by (try dsimp only); omega⟩, e4]
                      have eF : tF (A 18) (F 5) (0, F 6) = 0 := by
                        unfold tF
                        rw [if_pos ⟨rfl, by (try dsimp only); omega⟩, e2]
                      have eG : tG (A 18) (F 5) (0, F 6) = nx (A 18) (F 5) (a39) := by
                        unfold tG
                        rw [e2]
                      have eH : tH (A 18) (F 5) (0, F 6) = v42 := by
                        unfold tH
                        rw [e4]
                      refine ⟨eS, fun _ => ⟨?_, .inr ⟨?_, ?_⟩⟩⟩
                      · rw [eF, ← ex, rd_wr_s (by omega) (by (try simp only [wr_len]); omega)]
                        decide
                      · rw [eG, ← ex, rd_wr_s (by omega) (by (try simp only [wr_len]); omega)]
                      · rw [eH, ← ex, rd_wr_s (by omega) (by (try simp only [wr_len]); omega)]
                    · refine R_s (P := True) (f' := (82, [some (vR 17), some (vR 38), some (vI x), some (vI (nx (A 18) (F 5) (a39)))], [vI 0], LAY (u (u (u A 46 (A 46)) 44 (wr (A 44) x 1)) 45 (wr (A 45) x (nx (A 18) (F 5) (a39)))) (u (u F 6 a42) 7 v42), 0, 0)) hc44 1 rfl trivial ?_
                      refine R_retz hc44 rfl rfl (Or.inl rfl) ⟨0, wr (A 44) x 1, wr (A 45) x (nx (A 18) (F 5) (a39)), A 46, a42, v42, rfl, rfl, (by (try simp only [wr_len]); omega), (by (try simp only [wr_len]); omega), (by (try simp only [wr_len]); omega), by decide, by omega, by first | omega | (have := nx_in (l := A 18) (n := F 5) (a := F 6) (by omega); omega), fun q hq => by rw [rd_wr_n (by omega) (by omega) (by omega)], fun q hq => by rw [rd_wr_n (by omega) (by omega) (by omega)], fun _ _ => rfl, ?_, fun z => absurd z (by decide)⟩
                      have ehw33 : b33 = 1 := by omega
                      rw [ehw33] at hw33
                      have hw33n : wD (A 18) (F 5) IFF (0, F 6) = (0, a33) := hw33
                      have ehw34 : b34 = 1 := by omega
                      rw [ehw34] at hw34
                      have hw34n : wD (A 18) (F 5) YY (0, a33) = (0, a34) := hw34
                      have ehw39 : b39 = 1 := by omega
                      rw [ehw39] at hw39
                      have hw39n : wD (A 18) (F 5) EAR (0, a34) = (0, a39) := hw39
                      have ehw42 : b42 = 0 := by omega
                      rw [ehw42] at hw42
                      have hw42n : dG (A 18) (F 5) 4 (0, a39 + 1) = ((1, a42), v42) := hw42
                      have hYe : eE (A 18) (F 5) 121 (0, a33) = (0, a34) := hw34n
                      have e2 : t2 (A 18) (F 5) (0, F 6) = ((0, a39), 0) := by
                        unfold t2
                        rw [hw33n]
                        rw [if_pos rfl]
                        unfold fD
                        (try dsimp only)
                        rw [if_neg (by omega), hYe]
                        rw [if_pos ⟨rfl, by (try dsimp only); omega⟩, hw39n]
                      have e3 : t3 (A 18) (F 5) (0, F 6) = (0, a39 + 1) := by
                        unfold t3
                        rw [e2]
                        rw [if_pos ⟨rfl, by (try dsimp only); omega⟩]
                      have e4 : dG (A 18) (F 5) 4 (t3 (A 18) (F 5) (0, F 6)) = ((1, a42), v42) := by
                        rw [e3]
                        exact hw42n
                      have eS : tS (A 18) (F 5) (0, F 6) = (1, a42) := by
                        unfold tS
                        rw [if_pos ⟨rfl, by (try dsimp only); omega⟩, e4]
                      exact eS
                  · refine R_s (P := True) (f' := (55, [some (vR 17), some (vR 38), some (vI x), some (vI (nx (A 18) (F 5) (a39)))], [vI 0], LAY (u (u (u A 45 (A 45)) 46 (A 46)) 44 (wr (A 44) x 1)) (u (u F 7 (F 7)) 6 a39), 0, 0)) hc44 1 rfl trivial ?_
                    refine R_retz hc44 rfl rfl (Or.inl rfl) ⟨0, wr (A 44) x 1, A 45, A 46, a39, F 7, rfl, rfl, (by (try simp only [wr_len]); omega), (by (try simp only [wr_len]); omega), (by (try simp only [wr_len]); omega), by decide, by omega, by first | omega | (have := nx_in (l := A 18) (n := F 5) (a := F 6) (by omega); omega), fun q hq => by rw [rd_wr_n (by omega) (by omega) (by omega)], fun _ _ => rfl, fun _ _ => rfl, ?_, fun z => absurd z (by decide)⟩
                    have ehw33 : b33 = 1 := by omega
                    rw [ehw33] at hw33
                    have hw33n : wD (A 18) (F 5) IFF (0, F 6) = (0, a33) := hw33
                    have ehw34 : b34 = 1 := by omega
                    rw [ehw34] at hw34
                    have hw34n : wD (A 18) (F 5) YY (0, a33) = (0, a34) := hw34
                    have ehw39 : b39 = 1 := by omega
                    rw [ehw39] at hw39
                    have hw39n : wD (A 18) (F 5) EAR (0, a34) = (0, a39) := hw39
                    have hYe : eE (A 18) (F 5) 121 (0, a33) = (0, a34) := hw34n
                    have e2 : t2 (A 18) (F 5) (0, F 6) = ((0, a39), 0) := by
                      unfold t2
                      rw [hw33n]
                      rw [if_pos rfl]
                      unfold fD
                      (try dsimp only)
                      rw [if_neg (by omega), hYe]
                      rw [if_pos ⟨rfl, by (try dsimp only); omega⟩, hw39n]
                    have e3 : t3 (A 18) (F 5) (0, F 6) = (1, a39) := by
                      unfold t3
                      rw [e2]
                      rw [if_neg (fun z => by have := z.2; (try dsimp only at this); omega)]
                    have e4 : dG (A 18) (F 5) 4 (t3 (A 18) (F 5) (0, F 6)) = ((1, a39), 0) := by rw [e3, dG_f]
                    have eS : tS (A 18) (F 5) (0, F 6) = (1, a39) := by
                      unfold tS
                      rw [if_pos ⟨rfl, by (try dsimp only); omega⟩, e4]
                    exact eS
            · refine R_s (P := True) (f' := (30, [some (vR 17), some (vR 38), some (vI x), none], [vI 0], LAY (u (u (u A 45 (A 45)) 46 (A 46)) 44 (wr (A 44) x 1)) (u (u F 7 (F 7)) 6 a39), 0, 0)) hc44 1 rfl trivial ?_
              refine R_retz hc44 rfl rfl (Or.inl rfl) ⟨0, wr (A 44) x 1, A 45, A 46, a39, F 7, rfl, rfl, (by (try simp only [wr_len]); omega), (by (try simp only [wr_len]); omega), (by (try simp only [wr_len]); omega), by decide, by omega, by first | omega | (have := nx_in (l := A 18) (n := F 5) (a := F 6) (by omega); omega), fun q hq => by rw [rd_wr_n (by omega) (by omega) (by omega)], fun _ _ => rfl, fun _ _ => rfl, ?_, fun z => absurd z (by decide)⟩
              have ehw33 : b33 = 1 := by omega
              rw [ehw33] at hw33
              have hw33n : wD (A 18) (F 5) IFF (0, F 6) = (0, a33) := hw33
              have ehw34 : b34 = 1 := by omega
              rw [ehw34] at hw34
              have hw34n : wD (A 18) (F 5) YY (0, a33) = (0, a34) := hw34
              have ehw39 : b39 = 0 := by omega
              rw [ehw39] at hw39
              have hw39n : wD (A 18) (F 5) EAR (0, a34) = (1, a39) := hw39
              have hYe : eE (A 18) (F 5) 121 (0, a33) = (0, a34) := hw34n
              have e2 : t2 (A 18) (F 5) (0, F 6) = ((1, a39), 0) := by
                unfold t2
                rw [hw33n]
                rw [if_pos rfl]
                unfold fD
                (try dsimp only)
                rw [if_neg (by omega), hYe]
                rw [if_pos ⟨rfl, by (try dsimp only); omega⟩, hw39n]
              have e3 : t3 (A 18) (F 5) (0, F 6) = (1, a39) := by
                unfold t3
                rw [e2]
                rw [if_neg (fun z => absurd (show (1 : Int) = 0 from z.1) (by decide))]
              have e4 : dG (A 18) (F 5) 4 (t3 (A 18) (F 5) (0, F 6)) = ((1, a39), 0) := by rw [e3, dG_f]
              have eS : tS (A 18) (F 5) (0, F 6) = (1, a39) := by
                unfold tS
                rw [if_pos ⟨rfl, by (try dsimp only); omega⟩, e4]
              exact eS
        · refine R_s (P := True) (f' := (33, [some (vR 17), some (vR 38), some (vI x), none], [vI 0], LAY (u (u (u A 44 (A 44)) 45 (A 45)) 46 (A 46)) (u (u F 7 (F 7)) 6 a34), 0, 0)) hc45 1 rfl trivial ?_
          refine R_retz hc45 rfl rfl (Or.inl rfl) ?_
          refine R_s (f' := (26, [some (vR 17), some (vR 38), some (vI x), none], [vI 0], LAY (u (u (u A 44 (A 44)) 45 (A 45)) 46 (A 46)) (u (u F 7 (F 7)) 6 a34), 0, 0)) hc44 0 rfl trivial ?_
          refine R_if (t := 31) hc44 rfl rfl (fun (z : ¬ 0 = 0) => absurd z (by decide)) (fun (_ : ¬ (¬ 0 = 0)) => ?_)
          refine R_s (P := True) (f' := (30, [some (vR 17), some (vR 38), some (vI x), none], [vI 0], LAY (u (u (u A 44 (A 44)) 45 (A 45)) 46 (A 46)) (u (u F 7 (F 7)) 6 a34), 0, 0)) hc44 1 rfl trivial ?_
          refine R_retz hc44 rfl rfl (Or.inl rfl) ⟨0, A 44, A 45, A 46, a34, F 7, rfl, rfl, (by (try simp only [wr_len]); omega), (by (try simp only [wr_len]); omega), (by (try simp only [wr_len]); omega), by decide, by omega, by first | omega | (have := nx_in (l := A 18) (n := F 5) (a := F 6) (by omega); omega), fun _ _ => rfl, fun _ _ => rfl, fun _ _ => rfl, ?_, fun z => absurd z (by decide)⟩
          have ehw33 : b33 = 1 := by omega
          rw [ehw33] at hw33
          have hw33n : wD (A 18) (F 5) IFF (0, F 6) = (0, a33) := hw33
          have ehw34 : b34 = 0 := by omega
          rw [ehw34] at hw34
          have hw34n : wD (A 18) (F 5) YY (0, a33) = (1, a34) := hw34
          have hYe : eE (A 18) (F 5) 121 (0, a33) = (1, a34) := hw34n
          have e2 : t2 (A 18) (F 5) (0, F 6) = ((1, a34), 1) := by
            unfold t2
            rw [hw33n]
            rw [if_pos rfl]
            unfold fD
            (try dsimp only)
            rw [if_neg (by omega), hYe]
            rw [if_neg (fun z => absurd (show (1 : Int) = 0 from z.1) (by decide)), wD_f]
          have e3 : t3 (A 18) (F 5) (0, F 6) = (1, a34) := by
            unfold t3
            rw [e2]
            rw [if_neg (fun z => absurd (show (1 : Int) = 0 from z.1) (by decide))]
          have e4 : dG (A 18) (F 5) 4 (t3 (A 18) (F 5) (0, F 6)) = ((1, a34), 0) := by rw [e3, dG_f]
          have eS : tS (A 18) (F 5) (0, F 6) = (1, a34) := by
            unfold tS
            rw [if_pos ⟨rfl, by (try dsimp only); omega⟩, e4]
          exact eS
      · refine R_s (P := (0 ≤ x ∧ x < ((A 44).length : Int)) ∧ True) (f' := (19, [some (vR 17), some (vR 38), some (vI x), none], [vS 3, vR 17], LAY (u (u (u A 45 (A 45)) 46 (A 46)) 44 (wr (A 44) x 3)) (u (u F 7 (F 7)) 6 a33), 0, 0)) hc45 7 rfl ⟨⟨by omega, by omega⟩, trivial⟩ ?_
        refine R_cv hc45 rfl rfl (l_word3 (A := (u (u (u A 45 (A 45)) 46 (A 46)) 44 (wr (A 44) x 3))) (F := (u (u F 7 (F 7)) 6 a33)) (LENS_u (LENS_u (LENS_u hL (by show (A 45).length = (A 45).length; omega)) (by show (A 46).length = (A 46).length; omega)) (by show (wr (A 44) x 3).length = (A 44).length; simp only [wr_len])) h5 ⟨by (show 0 ≤ a33); omega, by (show a33 ≤ F 5); omega⟩) (fun r G9 hp9 => ?_)
        obtain ⟨b43, a43, rfl, rfl, hb43, hw43, p43, q43⟩ := hp9
        have p43 : 0 ≤ a43 := p43
        have q43 : a43 ≤ F 5 := q43
        refine R_s (f' := (22, [some (vR 17), some (vR 38), some (vI x), none], [vI b43], LAY (u (u (u A 45 (A 45)) 46 (A 46)) 44 (wr (A 44) x 3)) (u (u F 7 (F 7)) 6 a43), 0, 0)) hc45 0 rfl trivial ?_
        refine R_retz hc45 rfl rfl (by omega) ?_
        refine R_s (f' := (26, [some (vR 17), some (vR 38), some (vI x), none], [vI b43], LAY (u (u (u A 45 (A 45)) 46 (A 46)) 44 (wr (A 44) x 3)) (u (u F 7 (F 7)) 6 a43), 0, 0)) hc44 0 rfl trivial ?_
        refine R_if (t := 31) hc44 rfl rfl (fun (c10 : ¬ b43 = 0) => ?_) (fun (c10 : ¬ (¬ b43 = 0)) => ?_)
        · refine R_s (P := True) (f' := (32, [some (vR 17), some (vR 38), some (vI x), none], [vR 17], LAY (u (u (u A 45 (A 45)) 46 (A 46)) 44 (wr (A 44) x 3)) (u (u F 7 (F 7)) 6 a43), 0, 0)) hc44 1 rfl trivial ?_
          refine R_cv hc44 rfl rfl (l_next (A := (u (u (u A 45 (A 45)) 46 (A 46)) 44 (wr (A 44) x 3))) (F := (u (u F 7 (F 7)) 6 a43)) (LENS_u (LENS_u (LENS_u hL (by show (A 45).length = (A 45).length; omega)) (by show (A 46).length = (A 46).length; omega)) (by show (wr (A 44) x 3).length = (A 44).length; simp only [wr_len])) h5 ⟨by (show 0 ≤ a43); omega, by (show a43 ≤ F 5); omega⟩) (fun r G9 hp9 => ?_)
          obtain ⟨e1, rfl⟩ := hp9
          have e2 : r = some (vI (nx (A 18) (F 5) (a43))) := e1
          clear e1
          subst e2
          refine R_s (f' := (35, [some (vR 17), some (vR 38), some (vI x), none], [vI (nx (A 18) (F 5) (a43))], LAY (u (u (u A 45 (A 45)) 46 (A 46)) 44 (wr (A 44) x 3)) (u (u F 7 (F 7)) 6 a43), 0, 0)) hc44 0 rfl trivial ?_
          refine R_s (P := True) (f' := (39, [some (vR 17), some (vR 38), some (vI x), some (vI (nx (A 18) (F 5) (a43)))], [vI 61, vI (nx (A 18) (F 5) (a43))], LAY (u (u (u A 45 (A 45)) 46 (A 46)) 44 (wr (A 44) x 3)) (u (u F 7 (F 7)) 6 a43), 0, 0)) hc44 3 rfl trivial ?_
          refine R_ic (t := 56) hc44 rfl rfl (fun (c11 : nx (A 18) (F 5) (a43) = 61) => ?_) (fun (c11 : ¬ (nx (A 18) (F 5) (a43) = 61)) => ?_)
          · refine R_s (P := (0 ≤ x ∧ x < ((A 45).length : Int)) ∧ inI (a43 + 1) ∧ True) (f' := (75, [some (vR 17), some (vR 38), some (vI x), some (vI (nx (A 18) (F 5) (a43)))], [vI 4, vR 17], LAY (u (u (u A 46 (A 46)) 44 (wr (A 44) x 3)) 45 (wr (A 45) x (nx (A 18) (F 5) (a43)))) (u (u F 7 (F 7)) 6 (a43 + 1)), 0, 0)) hc44 13 rfl ⟨⟨by omega, by omega⟩, ⟨by omega, by omega⟩, trivial⟩ ?_
            refine R_cv hc44 rfl rfl (l_numb (A := (u (u (u A 46 (A 46)) 44 (wr (A 44) x 3)) 45 (wr (A 45) x (nx (A 18) (F 5) (a43))))) (F := (u (u F 7 (F 7)) 6 (a43 + 1))) (LENS_u (LENS_u (LENS_u hL (by show (A 46).length = (A 46).length; omega)) (by show (wr (A 44) x 3).length = (A 44).length; simp only [wr_len])) (by show (wr (A 45) x (nx (A 18) (F 5) (a43))).length = (A 45).length; simp only [wr_len])) h5 ⟨by (show 0 ≤ a43 + 1); omega, by (have := nx_in (l := A 18) (n := F 5) (a := a43) (by omega)); (show a43 + 1 ≤ F 5); omega⟩ (kk := 4) (by decide) rfl) (fun r G9 hp9 => ?_)
            obtain ⟨b44, a44, v44, rfl, rfl, hb44, hw44, p44, q44, w44⟩ := hp9
            have p44 : 0 ≤ a44 := p44
            have q44 : a44 ≤ F 5 := q44
            refine R_s (f' := (78, [some (vR 17), some (vR 38), some (vI x), some (vI (nx (A 18) (F 5) (a43)))], [vI b44], LAY (u (u (u A 46 (A 46)) 44 (wr (A 44) x 3)) 45 (wr (A 45) x (nx (A 18) (F 5) (a43)))) (u (u F 6 a44) 7 v44), 0, 0)) hc44 0 rfl trivial ?_
            refine R_if (t := 83) hc44 rfl rfl (fun (c12 : ¬ b44 = 0) => ?_) (fun (c12 : ¬ (¬ b44 = 0)) => ?_)
            · refine R_s (P := (0 ≤ x ∧ x < ((A 46).length : Int)) ∧ True) (f' := (94, [some (vR 17), some (vR 38), some (vI x), some (vI (nx (A 18) (F 5) (a43)))], [vI 1], LAY (u (u (u A 44 (wr (A 44) x 3)) 45 (wr (A 45) x (nx (A 18) (F 5) (a43)))) 46 (wr (A 46) x v44)) (u (u F 6 a44) 7 v44), 0, 0)) hc44 7 rfl ⟨⟨by omega, by omega⟩, trivial⟩ ?_
              refine R_retz hc44 rfl rfl (Or.inr rfl) ⟨1, wr (A 44) x 3, wr (A 45) x (nx (A 18) (F 5) (a43)), wr (A 46) x v44, a44, v44, rfl, rfl, (by (try simp only [wr_len]); omega), (by (try simp only [wr_len]); omega), (by (try simp only [wr_len]); omega), by decide, by omega, by first | omega | (have := nx_in (l := A 18) (n := F 5) (a := F 6) (by omega); omega), fun q hq => by rw [rd_wr_n (by omega) (by omega) (by omega)], fun q hq => by rw [rd_wr_n (by omega) (by omega) (by omega)], fun q hq => by rw [rd_wr_n (by omega) (by omega) (by omega)], ?_⟩
              have ehw33 : b33 = 1 := by omega
              rw [ehw33] at hw33
              have hw33n : wD (A 18) (F 5) IFF (0, F 6) = (0, a33) := hw33
              have ehw43 : b43 = 1 := by omega
              rw [ehw43] at hw43
              have hw43n : wD (A 18) (F 5) ALIVE (0, a33) = (0, a43) := hw43
              have ehw44 : b44 = 1 := by omega
              rw [ehw44] at hw44
              have hw44n : dG (A 18) (F 5) 4 (0, a43 + 1) = ((0, a44), v44) := hw44
              have e2 : t2 (A 18) (F 5) (0, F 6) = ((0, a43), 2) := by
                unfold t2
                rw [hw33n]
                rw [if_pos rfl]
                unfold fD
                (try dsimp only)
                rw [if_pos (by omega), hw43n]
              have e3 : t3 (A 18) (F 5) (0, F 6) = (0, a43 + 1) := by
                unfold t3
                rw [e2]
                rw [if_pos ⟨rfl, by (try dsimp only); omega⟩]
              have e4 : dG (A 18) (F 5) 4 (t3 (A 18) (F 5) (0, F 6)) = ((0, a44), v44) := by
                rw [e3]
                exact hw44n
              have eS : tS (A 18) (F 5) (0, F 6) = (0, a44) := by
                unfold tS
                rw [if_pos ⟨rfl, by (try dsimp only); omega⟩, e4]
              have eF : tF (A 18) (F 5) (0, F 6) = 2 := by
                unfold tF
                rw [if_pos ⟨rfl, by (try dsimp only); omega⟩, e2]
              have eG : tG (A 18) (F 5) (0, F 6) = nx (A 18) (F 5) (a43) := by
                unfold tG
                rw [e2]
              have eH : tH (A 18) (F 5) (0, F 6) = v44 := by
                unfold tH
                rw [e4]
              refine ⟨eS, fun _ => ⟨?_, .inr ⟨?_, ?_⟩⟩⟩
              · rw [eF, ← ex, rd_wr_s (by omega) (by (try simp only [wr_len]); omega)]
                decide
              · rw [eG, ← ex, rd_wr_s (by omega) (by (try simp only [wr_len]); omega)]
              · rw [eH, ← ex, rd_wr_s (by omega) (by (try simp only [wr_len]); omega)]
            · refine R_s (P := True) (f' := (82, [some (vR 17), some (vR 38), some (vI x), some (vI (nx (A 18) (F 5) (a43)))], [vI 0], LAY (u (u (u A 46 (A 46)) 44 (wr (A 44) x 3)) 45 (wr (A 45) x (nx (A 18) (F 5) (a43)))) (u (u F 6 a44) 7 v44), 0, 0)) hc44 1 rfl trivial ?_
              refine R_retz hc44 rfl rfl (Or.inl rfl) ⟨0, wr (A 44) x 3, wr (A 45) x (nx (A 18) (F 5) (a43)), A 46, a44, v44, rfl, rfl, (by (try simp only [wr_len]); omega), (by (try simp only [wr_len]); omega), (by (try simp only [wr_len]); omega), by decide, by omega, by first | omega | (have := nx_in (l := A 18) (n := F 5) (a := F 6) (by omega); omega), fun q hq => by rw [rd_wr_n (by omega) (by omega) (by omega)], fun q hq => by rw [rd_wr_n (by omega) (by omega) (by omega)], fun _ _ => rfl, ?_, fun z => absurd z (by decide)⟩
              have ehw33 : b33 = 1 := by omega
              rw [ehw33] at hw33
              have hw33n : wD (A 18) (F 5) IFF (0, F 6) = (0, a33) := hw33
              have ehw43 : b43 = 1 := by omega
              rw [ehw43] at hw43
              have hw43n : wD (A 18) (F 5) ALIVE (0, a33) = (0, a43) := hw43
              have ehw44 : b44 = 0 := by omega
              rw [ehw44] at hw44
              have hw44n : dG (A 18) (F 5) 4 (0, a43 + 1) = ((1, a44), v44) := hw44
              have e2 : t2 (A 18) (F 5) (0, F 6) = ((0, a43), 2) := by
                unfold t2
                rw [hw33n]
                rw [if_pos rfl]
                unfold fD
                (try dsimp only)
                rw [if_pos (by omega), hw43n]
              have e3 : t3 (A 18) (F 5) (0, F 6) = (0, a43 + 1) := by
                unfold t3
                rw [e2]
                rw [if_pos ⟨rfl, by (try dsimp only); omega⟩]
              have e4 : dG (A 18) (F 5) 4 (t3 (A 18) (F 5) (0, F 6)) = ((1, a44), v44) := by
                rw [e3]
                exact hw44n
              have eS : tS (A 18) (F 5) (0, F 6) = (1, a44) := by
                unfold tS
                rw [if_pos ⟨rfl, by (try dsimp only); omega⟩, e4]
              exact eS
          · refine R_s (P := True) (f' := (45, [some (vR 17), some (vR 38), some (vI x), some (vI (nx (A 18) (F 5) (a43)))], [vI 60, vI (nx (A 18) (F 5) (a43))], LAY (u (u (u A 45 (A 45)) 46 (A 46)) 44 (wr (A 44) x 3)) (u (u F 7 (F 7)) 6 a43), 0, 0)) hc44 2 rfl trivial ?_
            refine R_ic (t := 56) hc44 rfl rfl (fun (c13 : nx (A 18) (F 5) (a43) = 60) => ?_) (fun (c13 : ¬ (nx (A 18) (F 5) (a43) = 60)) => ?_)
            · refine R_s (P := (0 ≤ x ∧ x < ((A 45).length : Int)) ∧ inI (a43 + 1) ∧ True) (f' := (75, [some (vR 17), some (vR 38), some (vI x), some (vI (nx (A 18) (F 5) (a43)))], [vI 4, vR 17], LAY (u (u (u A 46 (A 46)) 44 (wr (A 44) x 3)) 45 (wr (A 45) x (nx (A 18) (F 5) (a43)))) (u (u F 7 (F 7)) 6 (a43 + 1)), 0, 0)) hc44 13 rfl ⟨⟨by omega, by omega⟩, ⟨by omega, by omega⟩, trivial⟩ ?_
              refine R_cv hc44 rfl rfl (l_numb (A := (u (u (u A 46 (A 46)) 44 (wr (A 44) x 3)) 45 (wr (A 45) x (nx (A 18) (F 5) (a43))))) (F := (u (u F 7 (F 7)) 6 (a43 + 1))) (LENS_u (LENS_u (LENS_u hL (by show (A 46).length = (A 46).length; omega)) (by show (wr (A 44) x 3).length = (A 44).length; simp only [wr_len])) (by show (wr (A 45) x (nx (A 18) (F 5) (a43))).length = (A 45).length; simp only [wr_len])) h5 ⟨by (show 0 ≤ a43 + 1); omega, by (have := nx_in (l := A 18) (n := F 5) (a := a43) (by omega)); (show a43 + 1 ≤ F 5); omega⟩ (kk := 4) (by decide) rfl) (fun r G9 hp9 => ?_)
              obtain ⟨b45, a45, v45, rfl, rfl, hb45, hw45, p45, q45, w45⟩ := hp9
              have p45 : 0 ≤ a45 := p45
              have q45 : a45 ≤ F 5 := q45
              refine R_s (f' := (78, [some (vR 17), some (vR 38), some (vI x), some (vI (nx (A 18) (F 5) (a43)))], [vI b45], LAY (u (u (u A 46 (A 46)) 44 (wr (A 44) x 3)) 45 (wr (A 45) x (nx (A 18) (F 5) (a43)))) (u (u F 6 a45) 7 v45), 0, 0)) hc44 0 rfl trivial ?_
              refine R_if (t := 83) hc44 rfl rfl (fun (c14 : ¬ b45 = 0) => ?_) (fun (c14 : ¬ (¬ b45 = 0)) => ?_)
              · refine R_s (P := (0 ≤ x ∧ x < ((A 46).length : Int)) ∧ True) (f' := (94, [some (vR 17), some (vR 38), some (vI x), some (vI (nx (A 18) (F 5) (a43)))], [vI 1], LAY (u (u (u A 44 (wr (A 44) x 3)) 45 (wr (A 45) x (nx (A 18) (F 5) (a43)))) 46 (wr (A 46) x v45)) (u (u F 6 a45) 7 v45), 0, 0)) hc44 7 rfl ⟨⟨by omega, by omega⟩, trivial⟩ ?_
                refine R_retz hc44 rfl rfl (Or.inr rfl) ⟨1, wr (A 44) x 3, wr (A 45) x (nx (A 18) (F 5) (a43)), wr (A 46) x v45, a45, v45, rfl, rfl, (by (try simp only [wr_len]); omega), (by (try simp only [wr_len]); omega), (by (try simp only [wr_len]); omega), by decide, by omega, by first | omega | (have := nx_in (l := A 18) (n := F 5) (a := F 6) (by omega); omega), fun q hq => by rw [rd_wr_n (by omega) (by omega) (by omega)], fun q hq => by rw [rd_wr_n (by omega) (by omega) (by omega)], fun q hq => by rw [rd_wr_n (by omega) (by omega) (by omega)], ?_⟩
                have ehw33 : b33 = 1 := by omega
                rw [ehw33] at hw33
                have hw33n : wD (A 18) (F 5) IFF (0, F 6) = (0, a33) := hw33
                have ehw43 : b43 = 1 := by omega
                rw [ehw43] at hw43
                have hw43n : wD (A 18) (F 5) ALIVE (0, a33) = (0, a43) := hw43
                have ehw45 : b45 = 1 := by omega
                rw [ehw45] at hw45
                have hw45n : dG (A 18) (F 5) 4 (0, a43 + 1) = ((0, a45), v45) := hw45
                have e2 : t2 (A 18) (F 5) (0, F 6) = ((0, a43), 2) := by
                  unfold t2
                  rw [hw33n]
                  rw [if_pos rfl]
                  unfold fD
                  (try dsimp only)
                  rw [if_pos (by omega), hw43n]
                have e3 : t3 (A 18) (F 5) (0, F 6) = (0, a43 + 1) := by
                  unfold t3
                  rw [e2]
                  rw [if_pos ⟨rfl, by (try dsimp only); omega⟩]
                have e4 : dG (A 18) (F 5) 4 (t3 (A 18) (F 5) (0, F 6)) = ((0, a45), v45) := by
                  rw [e3]
                  exact hw45n
                have eS : tS (A 18) (F 5) (0, F 6) = (0, a45) := by
                  unfold tS
                  rw [if_pos ⟨rfl, by (try dsimp only); omega⟩, e4]
                have eF : tF (A 18) (F 5) (0, F 6) = 2 := by
                  unfold tF
                  rw [if_pos ⟨rfl, by (try dsimp only); omega⟩, e2]
                have eG : tG (A 18) (F 5) (0, F 6) = nx (A 18) (F 5) (a43) := by
                  unfold tG
                  rw [e2]
                have eH : tH (A 18) (F 5) (0, F 6) = v45 := by
                  unfold tH
                  rw [e4]
                refine ⟨eS, fun _ => ⟨?_, .inr ⟨?_, ?_⟩⟩⟩
                · rw [eF, ← ex, rd_wr_s (by omega) (by (try simp only [wr_len]); omega)]
                  decide
                · rw [eG, ← ex, rd_wr_s (by omega) (by (try simp only [wr_len]); omega)]
                · rw [eH, ← ex, rd_wr_s (by omega) (by (try simp only [wr_len]); omega)]
              · refine R_s (P := True) (f' := (82, [some (vR 17), some (vR 38), some (vI x), some (vI (nx (A 18) (F 5) (a43)))], [vI 0], LAY (u (u (u A 46 (A 46)) 44 (wr (A 44) x 3)) 45 (wr (A 45) x (nx (A 18) (F 5) (a43)))) (u (u F 6 a45) 7 v45), 0, 0)) hc44 1 rfl trivial ?_
                refine R_retz hc44 rfl rfl (Or.inl rfl) ⟨0, wr (A 44) x 3, wr (A 45) x (nx (A 18) (F 5) (a43)), A 46, a45, v45, rfl, rfl, (by (try simp only [wr_len]); omega), (by (try simp only [wr_len]); omega), (by (try simp only [wr_len]); omega), by decide, by omega, by first | omega | (have := nx_in (l := A 18) (n := F 5) (a := F 6) (by omega); omega), fun q hq => by rw [rd_wr_n (by omega) (by omega) (by omega)], fun q hq => by rw [rd_wr_n (by omega) (by omega) (by omega)], fun _ _ => rfl, ?_, fun z => absurd z (by decide)⟩
                have ehw33 : b33 = 1 := by omega
                rw [ehw33] at hw33
                have hw33n : wD (A 18) (F 5) IFF (0, F 6) = (0, a33) := hw33
                have ehw43 : b43 = 1 := by omega
                rw [ehw43] at hw43
                have hw43n : wD (A 18) (F 5) ALIVE (0, a33) = (0, a43) := hw43
                have ehw45 : b45 = 0 := by omega
                rw [ehw45] at hw45
                have hw45n : dG (A 18) (F 5) 4 (0, a43 + 1) = ((1, a45), v45) := hw45
                have e2 : t2 (A 18) (F 5) (0, F 6) = ((0, a43), 2) := by
                  unfold t2
                  rw [hw33n]
                  rw [if_pos rfl]
                  unfold fD
                  (try dsimp only)
                  rw [if_pos (by omega), hw43n]
                have e3 : t3 (A 18) (F 5) (0, F 6) = (0, a43 + 1) := by
                  unfold t3
                  rw [e2]
                  rw [if_pos ⟨rfl, by (try dsimp only); omega⟩]
                have e4 : dG (A 18) (F 5) 4 (t3 (A 18) (F 5) (0, F 6)) = ((1, a45), v45) := by
                  rw [e3]
                  exact hw45n
                have eS : tS (A 18) (F 5) (0, F 6) = (1, a45) := by
                  unfold tS
                  rw [if_pos ⟨rfl, by (try dsimp only); omega⟩, e4]
                exact eS
            · refine R_s (P := True) (f' := (51, [some (vR 17), some (vR 38), some (vI x), some (vI (nx (A 18) (F 5) (a43)))], [vI 62, vI (nx (A 18) (F 5) (a43))], LAY (u (u (u A 45 (A 45)) 46 (A 46)) 44 (wr (A 44) x 3)) (u (u F 7 (F 7)) 6 a43), 0, 0)) hc44 2 rfl trivial ?_
              refine R_ic (t := 56) hc44 rfl rfl (fun (c15 : nx (A 18) (F 5) (a43) = 62) => ?_) (fun (c15 : ¬ (nx (A 18) (F 5) (a43) = 62)) => ?_)
              · refine R_s (P := (0 ≤ x ∧ x < ((A 45).length : Int)) ∧ inI (a43 + 1) ∧ True) (f' := (75, [some (vR 17), some (vR 38), some (vI x), some (vI (nx (A 18) (F 5) (a43)))], [vI 4, vR 17], LAY (u (u (u A 46 (A 46)) 44 (wr (A 44) x 3)) 45 (wr (A 45) x (nx (A 18) (F 5) (a43)))) (u (u F 7 (F 7)) 6 (a43 + 1)), 0, 0)) hc44 13 rfl ⟨⟨by omega, by omega⟩, ⟨by omega, by omega⟩, trivial⟩ ?_
                refine R_cv hc44 rfl rfl (l_numb (A := (u (u (u A 46 (A 46)) 44 (wr (A 44) x 3)) 45 (wr (A 45) x (nx (A 18) (F 5) (a43))))) (F := (u (u F 7 (F 7)) 6 (a43 + 1))) (LENS_u (LENS_u (LENS_u hL (by show (A 46).length = (A 46).length; omega)) (by show (wr (A 44) x 3).length = (A 44).length; simp only [wr_len])) (by show (wr (A 45) x (nx (A 18) (F 5) (a43))).length = (A 45).length; simp only [wr_len])) h5 ⟨by (show 0 ≤ a43 + 1); omega, by (have := nx_in (l := A 18) (n := F 5) (a := a43) (by omega)); (show a43 + 1 ≤ F 5); omega⟩ (kk := 4) (by decide) rfl) (fun r G9 hp9 => ?_)
                obtain ⟨b46, a46, v46, rfl, rfl, hb46, hw46, p46, q46, w46⟩ := hp9
                have p46 : 0 ≤ a46 := p46
                have q46 : a46 ≤ F 5 := q46
                refine R_s (f' := (78, [some (vR 17), some (vR 38), some (vI x), some (vI (nx (A 18) (F 5) (a43)))], [vI b46], LAY (u (u (u A 46 (A 46)) 44 (wr (A 44) x 3)) 45 (wr (A 45) x (nx (A 18) (F 5) (a43)))) (u (u F 6 a46) 7 v46), 0, 0)) hc44 0 rfl trivial ?_
                refine R_if (t := 83) hc44 rfl rfl (fun (c16 : ¬ b46 = 0) => ?_) (fun (c16 : ¬ (¬ b46 = 0)) => ?_)
                · refine R_s (P := (0 ≤ x ∧ x < ((A 46).length : Int)) ∧ True) (f' := (94, [some (vR 17), some (vR 38), some (vI x), some (vI (nx (A 18) (F 5) (a43)))], [vI 1], LAY (u (u (u A 44 (wr (A 44) x 3)) 45 (wr (A 45) x (nx (A 18) (F 5) (a43)))) 46 (wr (A 46) x v46)) (u (u F 6 a46) 7 v46), 0, 0)) hc44 7 rfl ⟨⟨by omega, by omega⟩, trivial⟩ ?_
                  refine R_retz hc44 rfl rfl (Or.inr rfl) ⟨1, wr (A 44) x 3, wr (A 45) x (nx (A 18) (F 5) (a43)), wr (A 46) x v46, a46, v46, rfl, rfl, (by (try simp only [wr_len]); omega), (by (try simp only [wr_len]); omega), (by (try simp only [wr_len]); omega), by decide, by omega, by first | omega | (have := nx_in (l := A 18) (n := F 5) (a := F 6) (by omega); omega), fun q hq => by rw [rd_wr_n (by omega) (by omega) (by omega)], fun q hq => by rw [rd_wr_n (by omega) (by omega) (by omega)], fun q hq => by rw [rd_wr_n (by omega) (by omega) (by omega)], ?_⟩
                  have ehw33 : b33 = 1 := by omega
                  rw [ehw33] at hw33
                  have hw33n : wD (A 18) (F 5) IFF (0, F 6) = (0, a33) := hw33
                  have ehw43 : b43 = 1 := by omega
                  rw [ehw43] at hw43
                  have hw43n : wD (A 18) (F 5) ALIVE (0, a33) = (0, a43) := hw43
                  have ehw46 : b46 = 1 := by omega
                  rw [ehw46] at hw46
                  have hw46n : dG (A 18) (F 5) 4 (0, a43 + 1) = ((0, a46), v46) := hw46
                  have e2 : t2 (A 18) (F 5) (0, F 6) = ((0, a43), 2) := by
                    unfold t2
                    rw [hw33n]
                    rw [if_pos rfl]
                    unfold fD
                    (try dsimp only)
                    rw [if_pos (by omega), hw43n]
                  have e3 : t3 (A 18) (F 5) (0, F 6) = (0, a43 + 1) := by
                    unfold t3
                    rw [e2]
                    rw [if_pos ⟨rfl, by (try dsimp only); omega⟩]
                  have e4 : dG (A 18) (F 5) 4 (t3 (A 18) (F 5) (0, F 6)) = ((0, a46), v46) := by
                    rw [e3]
                    exact hw46n
                  have eS : tS (A 18) (F 5) (0, F 6) = (0, a46) := by
                    unfold tS
                    rw [if_pos ⟨rfl, by (try dsimp only); omega⟩, e4]
                  have eF : tF (A 18) (F 5) (0, F 6) = 2 := by
                    unfold tF
                    rw [if_pos ⟨rfl, by (try dsimp only); omega⟩, e2]
                  have eG : tG (A 18) (F 5) (0, F 6) = nx (A 18) (F 5) (a43) := by
                    unfold tG
                    rw [e2]
                  have eH : tH (A 18) (F 5) (0, F 6) = v46 := by
                    unfold tH
                    rw [e4]
                  refine ⟨eS, fun _ => ⟨?_, .inr ⟨?_, ?_⟩⟩⟩
                  · rw [eF, ← ex, rd_wr_s (by omega) (by (try simp only [wr_len]); omega)]
                    decide
                  · rw [eG, ← ex, rd_wr_s (by omega) (by (try simp only [wr_len]); omega)]
                  · rw [eH, ← ex, rd_wr_s (by omega) (by (try simp only [wr_len]); omega)]
                · refine R_s (P := True) (f' := (82, [some (vR 17), some (vR 38), some (vI x), some (vI (nx (A 18) (F 5) (a43)))], [vI 0], LAY (u (u (u A 46 (A 46)) 44 (wr (A 44) x 3)) 45 (wr (A 45) x (nx (A 18) (F 5) (a43)))) (u (u F 6 a46) 7 v46), 0, 0)) hc44 1 rfl trivial ?_
                  refine R_retz hc44 rfl rfl (Or.inl rfl) ⟨0, wr (A 44) x 3, wr (A 45) x (nx (A 18) (F 5) (a43)), A 46, a46, v46, rfl, rfl, (by (try simp only [wr_len]); omega), (by (try simp only [wr_len]); omega), (by (try simp only [wr_len]); omega), by decide, by omega, by first | omega | (have := nx_in (l := A 18) (n := F 5) (a := F 6) (by omega); omega), fun q hq => by rw [rd_wr_n (by omega) (by omega) (by omega)], fun q hq => by rw [rd_wr_n (by omega) (by omega) (by omega)], fun _ _ => rfl, ?_, fun z => absurd z (by decide)⟩
                  have ehw33 : b33 = 1 := by omega
                  rw [ehw33] at hw33
                  have hw33n : wD (A 18) (F 5) IFF (0, F 6) = (0, a33) := hw33
                  have ehw43 : b43 = 1 := by omega
                  rw [ehw43] at hw43
                  have hw43n : wD (A 18) (F 5) ALIVE (0, a33) = (0, a43) := hw43
                  have ehw46 : b46 = 0 := by omega
                  rw [ehw46] at hw46
                  have hw46n : dG (A 18) (F 5) 4 (0, a43 + 1) = ((1, a46), v46) := hw46
                  have e2 : t2 (A 18) (F 5) (0, F 6) = ((0, a43), 2) := by
                    unfold t2
                    rw [hw33n]
                    rw [if_pos rfl]
                    unfold fD
                    (try dsimp only)
                    rw [if_pos (by omega), hw43n]
                  have e3 : t3 (A 18) (F 5) (0, F 6) = (0, a43 + 1) := by
                    unfold t3
                    rw [e2]
                    rw [if_pos ⟨rfl, by (try dsimp only); omega⟩]
                  have e4 : dG (A 18) (F 5) 4 (t3 (A 18) (F 5) (0, F 6)) = ((1, a46), v46) := by
                    rw [e3]
                    exact hw46n
                  have eS : tS (A 18) (F 5) (0, F 6) = (1, a46) := by
                    unfold tS
                    rw [if_pos ⟨rfl, by (try dsimp only); omega⟩, e4]
                  exact eS
              · refine R_s (P := True) (f' := (55, [some (vR 17), some (vR 38), some (vI x), some (vI (nx (A 18) (F 5) (a43)))], [vI 0], LAY (u (u (u A 45 (A 45)) 46 (A 46)) 44 (wr (A 44) x 3)) (u (u F 7 (F 7)) 6 a43), 0, 0)) hc44 1 rfl trivial ?_
                refine R_retz hc44 rfl rfl (Or.inl rfl) ⟨0, wr (A 44) x 3, A 45, A 46, a43, F 7, rfl, rfl, (by (try simp only [wr_len]); omega), (by (try simp only [wr_len]); omega), (by (try simp only [wr_len]); omega), by decide, by omega, by first | omega | (have := nx_in (l := A 18) (n := F 5) (a := F 6) (by omega); omega), fun q hq => by rw [rd_wr_n (by omega) (by omega) (by omega)], fun _ _ => rfl, fun _ _ => rfl, ?_, fun z => absurd z (by decide)⟩
                have ehw33 : b33 = 1 := by omega
                rw [ehw33] at hw33
                have hw33n : wD (A 18) (F 5) IFF (0, F 6) = (0, a33) := hw33
                have ehw43 : b43 = 1 := by omega
                rw [ehw43] at hw43
                have hw43n : wD (A 18) (F 5) ALIVE (0, a33) = (0, a43) := hw43
                have e2 : t2 (A 18) (F 5) (0, F 6) = ((0, a43), 2) := by
                  unfold t2
                  rw [hw33n]
                  rw [if_pos rfl]
                  unfold fD
                  (try dsimp only)
                  rw [if_pos (by omega), hw43n]
                have e3 : t3 (A 18) (F 5) (0, F 6) = (1, a43) := by
                  unfold t3
                  rw [e2]
                  rw [if_neg (fun z => by have := z.2; (try dsimp only at this); omega)]
                have e4 : dG (A 18) (F 5) 4 (t3 (A 18) (F 5) (0, F 6)) = ((1, a43), 0) := by rw [e3, dG_f]
                have eS : tS (A 18) (F 5) (0, F 6) = (1, a43) := by
                  unfold tS
                  rw [if_pos ⟨rfl, by (try dsimp only); omega⟩, e4]
                exact eS
        · refine R_s (P := True) (f' := (30, [some (vR 17), some (vR 38), some (vI x), none], [vI 0], LAY (u (u (u A 45 (A 45)) 46 (A 46)) 44 (wr (A 44) x 3)) (u (u F 7 (F 7)) 6 a43), 0, 0)) hc44 1 rfl trivial ?_
          refine R_retz hc44 rfl rfl (Or.inl rfl) ⟨0, wr (A 44) x 3, A 45, A 46, a43, F 7, rfl, rfl, (by (try simp only [wr_len]); omega), (by (try simp only [wr_len]); omega), (by (try simp only [wr_len]); omega), by decide, by omega, by first | omega | (have := nx_in (l := A 18) (n := F 5) (a := F 6) (by omega); omega), fun q hq => by rw [rd_wr_n (by omega) (by omega) (by omega)], fun _ _ => rfl, fun _ _ => rfl, ?_, fun z => absurd z (by decide)⟩
          have ehw33 : b33 = 1 := by omega
          rw [ehw33] at hw33
          have hw33n : wD (A 18) (F 5) IFF (0, F 6) = (0, a33) := hw33
          have ehw43 : b43 = 0 := by omega
          rw [ehw43] at hw43
          have hw43n : wD (A 18) (F 5) ALIVE (0, a33) = (1, a43) := hw43
          have e2 : t2 (A 18) (F 5) (0, F 6) = ((1, a43), 2) := by
            unfold t2
            rw [hw33n]
            rw [if_pos rfl]
            unfold fD
            (try dsimp only)
            rw [if_pos (by omega), hw43n]
          have e3 : t3 (A 18) (F 5) (0, F 6) = (1, a43) := by
            unfold t3
            rw [e2]
            rw [if_neg (fun z => absurd (show (1 : Int) = 0 from z.1) (by decide))]
          have e4 : dG (A 18) (F 5) 4 (t3 (A 18) (F 5) (0, F 6)) = ((1, a43), 0) := by rw [e3, dG_f]
          have eS : tS (A 18) (F 5) (0, F 6) = (1, a43) := by
            unfold tS
            rw [if_pos ⟨rfl, by (try dsimp only); omega⟩, e4]
          exact eS
  · refine R_s (P := True) (f' := (10, [some (vR 17), some (vR 38), some (vI x), none], [vI 1], LAY (u (u (u A 44 (A 44)) 45 (A 45)) 46 (A 46)) (u (u F 6 (F 6)) 7 (F 7)), 0, 0)) hc44 1 rfl trivial ?_
    refine R_retz hc44 rfl rfl (Or.inr rfl) ⟨1, A 44, A 45, A 46, F 6, F 7, rfl, rfl, (by (try simp only [wr_len]); omega), (by (try simp only [wr_len]); omega), (by (try simp only [wr_len]); omega), by decide, by omega, by first | omega | (have := nx_in (l := A 18) (n := F 5) (a := F 6) (by omega); omega), fun _ _ => rfl, fun _ _ => rfl, fun _ _ => rfl, ?_, fun _ => ⟨?_, .inl ?_⟩⟩
    · unfold tS
      rw [if_neg (fun z => by have := z.2; (try dsimp only at this); omega)]
      rfl
    all_goals have e9 : tF (A 18) (F 5) (0, F 6) = -1 := by (unfold tF; rw [if_neg (fun z => by have := z.2; (try dsimp only at this); omega)])
    · rw [e9]; omega
    · exact e9

theorem l_rrest2 {A : Nat → List Int} {F : Nat → Int} (hL : LENS A) (h5 : 0 ≤ F 5 ∧ F 5 ≤ 120) (h6 : 0 ≤ F 6 ∧ F 6 ≤ F 5) {x : Int} {i : Nat} (ex : x = (i : Int)) (hi : i < 6) : R 43 (0, L0 43 [vR 17, vR 38, vI x], [], LAY A F, 0, 0) (fun r G => ∃ (c : Int) (q0 q3 : List Int) (a v : Int), r = some (vI c) ∧ G = LAY (u (u A 39 q0) 42 q3) (u (u F 6 a) 7 v) ∧ q0.length = 6 ∧ q3.length = 6 ∧ (c = 0 ∨ c = 1) ∧ 0 ≤ a ∧ a ≤ F 5 ∧ (∀ q : Nat, q ≠ i → rd q0 q = rd (A 39) q) ∧ (∀ q : Nat, q ≠ i → rd q3 q = rd (A 42) q) ∧ (hS (A 18) (F 5) (wD (A 18) (F 5) REST (0, F 6))).1 = (1 - c, a) ∧ rd q0 i = 3 ∧ (c = 1 → rd q3 i = (hS (A 18) (F 5) (wD (A 18) (F 5) REST (0, F 6))).2)) := by
  have d0 : (A 39).length = 6 := hL 39 (by decide)
  have d1 : (A 40).length = 6 := hL 40 (by decide)
  have d2 : (A 41).length = 6 := hL 41 (by decide)
  have d3 : (A 42).length = 6 := hL 42 (by decide)
  have d4 : (A 43).length = 6 := hL 43 (by decide)
  have d5 : (A 44).length = 6 := hL 44 (by decide)
  have d6 : (A 45).length = 6 := hL 45 (by decide)
  have d7 : (A 46).length = 6 := hL 46 (by decide)
  refine R_s (P := True) (f' := (0, [some (vR 17), some (vR 38), some (vI x)], [], LAY (u (u A 39 (A 39)) 42 (A 42)) (u (u F 6 (F 6)) 7 (F 7)), 0, 0)) hc43 0 rfl trivial ?_
  refine R_s (P := (0 ≤ x ∧ x < ((A 39).length : Int)) ∧ True) (f' := (10, [some (vR 17), some (vR 38), some (vI x)], [vS 12, vR 17], LAY (u (u A 42 (A 42)) 39 (wr (A 39) x 3)) (u (u F 6 (F 6)) 7 (F 7)), 0, 0)) hc43 7 rfl ⟨⟨by omega, by omega⟩, trivial⟩ ?_
  refine R_cv hc43 rfl rfl (l_word12 (A := (u (u A 42 (A 42)) 39 (wr (A 39) x 3))) (F := (u (u F 6 (F 6)) 7 (F 7))) (LENS_u (LENS_u hL (by show (A 42).length = (A 42).length; omega)) (by show (wr (A 39) x 3).length = (A 39).length; simp only [wr_len])) h5 ⟨by (show 0 ≤ F 6); omega, by (show F 6 ≤ F 5); omega⟩) (fun r G9 hp9 => ?_)
  obtain ⟨b47, a47, rfl, rfl, hb47, hw47, p47, q47⟩ := hp9
  have p47 : 0 ≤ a47 := p47
  have q47 : a47 ≤ F 5 := q47
  refine R_s (f' := (13, [some (vR 17), some (vR 38), some (vI x)], [vI b47], LAY (u (u A 42 (A 42)) 39 (wr (A 39) x 3)) (u (u F 7 (F 7)) 6 a47), 0, 0)) hc43 0 rfl trivial ?_
  refine R_if (t := 29) hc43 rfl rfl (fun (c1 : b47 = 0) => ?_) (fun (c1 : ¬ (b47 = 0)) => ?_)
  · refine R_s (P := True) (f' := (30, [some (vR 17), some (vR 38), some (vI x)], [vI 0], LAY (u (u A 42 (A 42)) 39 (wr (A 39) x 3)) (u (u F 7 (F 7)) 6 a47), 0, 0)) hc43 1 rfl trivial ?_
    refine R_retz hc43 rfl rfl (Or.inl rfl) ⟨0, wr (A 39) x 3, A 42, a47, F 7, rfl, rfl, (by (try simp only [wr_len]); omega), (by (try simp only [wr_len]); omega), by decide, by omega, by omega, fun q hq => by rw [rd_wr_n (by omega) (by omega) (by omega)], fun _ _ => rfl, ?_⟩
    have ehw47 : b47 = 0 := by omega
    rw [ehw47] at hw47
    have hw47n : wD (A 18) (F 5) REST (0, F 6) = (1, a47) := hw47
    have eS : hS (A 18) (F 5) (wD (A 18) (F 5) REST (0, F 6)) = ((1, a47), 0) := by rw [hw47n, hS_f]
    exact ⟨by rw [eS]; rfl, by rw [← ex]; exact rd_wr_s (by omega) (by omega), fun z => absurd z (by decide)⟩
  · refine R_s (P := True) (f' := (19, [some (vR 17), some (vR 38), some (vI x)], [vI x, vR 38, vR 17], LAY (u (u A 42 (A 42)) 39 (wr (A 39) x 3)) (u (u F 7 (F 7)) 6 a47), 0, 0)) hc43 3 rfl trivial ?_
    refine R_cv hc43 rfl rfl (l_rhouse2 (A := (u (u A 42 (A 42)) 39 (wr (A 39) x 3))) (F := (u (u F 7 (F 7)) 6 a47)) (LENS_u (LENS_u hL (by show (A 42).length = (A 42).length; omega)) (by show (wr (A 39) x 3).length = (A 39).length; simp only [wr_len])) h5 ⟨by (show 0 ≤ a47); omega, by (show a47 ≤ F 5); omega⟩ ex hi) (fun r G9 hp9 => ?_)
    obtain ⟨b48, h3_48, a48, v48, rfl, rfl, l48, hb48, p48, q48, kp48, h48, hw48, hv48⟩ := hp9
    have q48 : a48 ≤ F 5 := q48
    have kp48 : ∀ q : Nat, q ≠ i → rd h3_48 q = rd (A 42) q := kp48
    refine R_s (f' := (22, [some (vR 17), some (vR 38), some (vI x)], [vI b48], LAY (u (u A 39 (wr (A 39) x 3)) 42 h3_48) (u (u F 6 a48) 7 v48), 0, 0)) hc43 0 rfl trivial ?_
    refine R_if (t := 29) hc43 rfl rfl (fun (c2 : b48 = 0) => ?_) (fun (c2 : ¬ (b48 = 0)) => ?_)
    · refine R_s (P := True) (f' := (30, [some (vR 17), some (vR 38), some (vI x)], [vI 0], LAY (u (u A 39 (wr (A 39) x 3)) 42 h3_48) (u (u F 6 a48) 7 v48), 0, 0)) hc43 1 rfl trivial ?_
      refine R_retz hc43 rfl rfl (Or.inl rfl) ⟨0, wr (A 39) x 3, h3_48, a48, v48, rfl, rfl, (by (try simp only [wr_len]); omega), (by (try simp only [wr_len]); omega), by decide, by omega, by omega, fun q hq => by rw [rd_wr_n (by omega) (by omega) (by omega)], fun q hq => by rw [kp48 q hq], ?_⟩
      have ehw47 : b47 = 1 := by omega
      rw [ehw47] at hw47
      have hw47n : wD (A 18) (F 5) REST (0, F 6) = (0, a47) := hw47
      have ehw48 : b48 = 0 := by omega
      rw [ehw48] at hw48
      have hw48n : hS (A 18) (F 5) (0, a47) = ((1, a48), h48) := hw48
      have eS : hS (A 18) (F 5) (wD (A 18) (F 5) REST (0, F 6)) = ((1, a48), h48) := by rw [hw47n, hw48n]
      exact ⟨by rw [eS]; rfl, by rw [← ex]; exact rd_wr_s (by omega) (by omega), fun z => absurd z (by decide)⟩
    · refine R_s (P := True) (f' := (30, [some (vR 17), some (vR 38), some (vI x)], [vI 1], LAY (u (u A 39 (wr (A 39) x 3)) 42 h3_48) (u (u F 6 a48) 7 v48), 0, 0)) hc43 2 rfl trivial ?_
      refine R_retz hc43 rfl rfl (Or.inr rfl) ⟨1, wr (A 39) x 3, h3_48, a48, v48, rfl, rfl, (by (try simp only [wr_len]); omega), (by (try simp only [wr_len]); omega), by decide, by omega, by omega, fun q hq => by rw [rd_wr_n (by omega) (by omega) (by omega)], fun q hq => by rw [kp48 q hq], ?_⟩
      have ehw47 : b47 = 1 := by omega
      rw [ehw47] at hw47
      have hw47n : wD (A 18) (F 5) REST (0, F 6) = (0, a47) := hw47
      have ehw48 : b48 = 1 := by omega
      rw [ehw48] at hw48
      have hw48n : hS (A 18) (F 5) (0, a47) = ((0, a48), h48) := hw48
      have eS : hS (A 18) (F 5) (wD (A 18) (F 5) REST (0, F 6)) = ((0, a48), h48) := by rw [hw47n, hw48n]
      exact ⟨by rw [eS]; rfl, by rw [← ex]; exact rd_wr_s (by omega) (by omega), fun _ => by rw [eS]; exact hv48 (by omega)⟩

theorem l_rhouse3 {A : Nat → List Int} {F : Nat → Int} (hL : LENS A) (h5 : 0 ≤ F 5 ∧ F 5 ≤ 120) (h6 : 0 ≤ F 6 ∧ F 6 ≤ F 5) {x : Int} {i : Nat} (ex : x = (i : Int)) (hi : i < 6) : R 46 (0, L0 46 [vR 17, vR 47, vI x], [], LAY A F, 0, 0) (fun r G => ∃ (c : Int) (q3 : List Int) (a v : Int), r = some (vI c) ∧ G = LAY (u A 51 q3) (u (u F 6 a) 7 v) ∧ q3.length = 6 ∧ (c = 0 ∨ c = 1) ∧ 0 ≤ a ∧ a ≤ F 5 ∧ (∀ q : Nat, q ≠ i → rd q3 q = rd (A 51) q) ∧ ∃ h, hS (A 18) (F 5) (0, F 6) = ((1 - c, a), h) ∧ (c = 1 → rd q3 i = h)) := by
  have d0 : (A 48).length = 6 := hL 48 (by decide)
  have d1 : (A 49).length = 6 := hL 49 (by decide)
  have d2 : (A 50).length = 6 := hL 50 (by decide)
  have d3 : (A 51).length = 6 := hL 51 (by decide)
  have d4 : (A 52).length = 6 := hL 52 (by decide)
  have d5 : (A 53).length = 6 := hL 53 (by decide)
  have d6 : (A 54).length = 6 := hL 54 (by decide)
  have d7 : (A 55).length = 6 := hL 55 (by decide)
  refine R_s (P := True) (f' := (0, [some (vR 17), some (vR 47), some (vI x), none], [], LAY (u A 51 (A 51)) (u (u F 6 (F 6)) 7 (F 7)), 0, 0)) hc46 0 rfl trivial ?_
  refine R_s (P := True) (f' := (1, [some (vR 17), some (vR 47), some (vI x), none], [vR 17], LAY (u A 51 (A 51)) (u (u F 6 (F 6)) 7 (F 7)), 0, 0)) hc46 1 rfl trivial ?_
  refine R_cv hc46 rfl rfl (l_next (A := (u A 51 (A 51))) (F := (u (u F 6 (F 6)) 7 (F 7))) (LENS_u hL (by show (A 51).length = (A 51).length; omega)) h5 ⟨by (show 0 ≤ F 6); omega, by (show F 6 ≤ F 5); omega⟩) (fun r G9 hp9 => ?_)
  obtain ⟨e1, rfl⟩ := hp9
  have e2 : r = some (vI (nx (A 18) (F 5) (F 6))) := e1
  clear e1
  subst e2
  refine R_s (f' := (4, [some (vR 17), some (vR 47), some (vI x), none], [vI (nx (A 18) (F 5) (F 6))], LAY (u A 51 (A 51)) (u (u F 6 (F 6)) 7 (F 7)), 0, 0)) hc46 0 rfl trivial ?_
  refine R_s (P := True) (f' := (8, [some (vR 17), some (vR 47), some (vI x), some (vI (nx (A 18) (F 5) (F 6)))], [vI 97, vI (nx (A 18) (F 5) (F 6))], LAY (u A 51 (A 51)) (u (u F 6 (F 6)) 7 (F 7)), 0, 0)) hc46 3 rfl trivial ?_
  refine R_ic (t := 17) hc46 rfl rfl (fun (c1 : nx (A 18) (F 5) (F 6) < 97) => ?_) (fun (c1 : ¬ (nx (A 18) (F 5) (F 6) < 97)) => ?_)
  · refine R_s (P := True) (f' := (18, [some (vR 17), some (vR 47), some (vI x), some (vI (nx (A 18) (F 5) (F 6)))], [vI 0], LAY (u A 51 (A 51)) (u (u F 6 (F 6)) 7 (F 7)), 0, 0)) hc46 1 rfl trivial ?_
    refine R_retz hc46 rfl rfl (Or.inl rfl) ⟨0, A 51, F 6, F 7, rfl, rfl, (by (try simp only [wr_len]); omega), by decide, by omega, by omega, fun _ _ => rfl, 0, ?_, fun z => absurd z (by decide)⟩
    unfold hS
    (try dsimp only)
    rw [if_neg (fun z => by omega)]
    rfl
  · refine R_s (P := True) (f' := (14, [some (vR 17), some (vR 47), some (vI x), some (vI (nx (A 18) (F 5) (F 6)))], [vI 105, vI (nx (A 18) (F 5) (F 6))], LAY (u A 51 (A 51)) (u (u F 6 (F 6)) 7 (F 7)), 0, 0)) hc46 2 rfl trivial ?_
    refine R_ic (t := 19) hc46 rfl rfl (fun (c2 : nx (A 18) (F 5) (F 6) < 105) => ?_) (fun (c2 : ¬ (nx (A 18) (F 5) (F 6) < 105)) => ?_)
    · refine R_s (P := inI ((nx (A 18) (F 5) (F 6)) - 97) ∧ (0 ≤ x ∧ x < ((A 51).length : Int)) ∧ inI ((F 6) + 1) ∧ True) (f' := (40, [some (vR 17), some (vR 47), some (vI x), some (vI (nx (A 18) (F 5) (F 6)))], [vI 1], LAY (u A 51 (wr (A 51) x ((nx (A 18) (F 5) (F 6)) - 97))) (u (u F 7 (F 7)) 6 ((F 6) + 1)), 0, 0)) hc46 14 rfl ⟨⟨by omega, by omega⟩, ⟨by omega, by omega⟩, ⟨by omega, by omega⟩, trivial⟩ ?_
      refine R_retz hc46 rfl rfl (Or.inr rfl) ⟨1, wr (A 51) x ((nx (A 18) (F 5) (F 6)) - 97), (F 6) + 1, F 7, rfl, rfl, (by (try simp only [wr_len]); omega), by decide, by omega, by have := nx_in (l := A 18) (n := F 5) (a := F 6) (by omega); omega, fun q hq => by rw [rd_wr_n (by omega) (by omega) (by omega)], nx (A 18) (F 5) (F 6) - 97, ?_, fun _ => by rw [← ex]; exact rd_wr_s (by omega) (by omega)⟩
      unfold hS
      (try dsimp only)
      rw [if_pos ⟨rfl, by omega, by omega⟩]
      rfl
    · refine R_s (P := True) (f' := (18, [some (vR 17), some (vR 47), some (vI x), some (vI (nx (A 18) (F 5) (F 6)))], [vI 0], LAY (u A 51 (A 51)) (u (u F 6 (F 6)) 7 (F 7)), 0, 0)) hc46 1 rfl trivial ?_
      refine R_retz hc46 rfl rfl (Or.inl rfl) ⟨0, A 51, F 6, F 7, rfl, rfl, (by (try simp only [wr_len]); omega), by decide, by omega, by omega, fun _ _ => rfl, 0, ?_, fun z => absurd z (by decide)⟩
      unfold hS
      (try dsimp only)
      rw [if_neg (fun z => by omega)]
      rfl

theorem l_rtest3 {A : Nat → List Int} {F : Nat → Int} (hL : LENS A) (h5 : 0 ≤ F 5 ∧ F 5 ≤ 120) (h6 : 0 ≤ F 6 ∧ F 6 ≤ F 5) {x : Int} {i : Nat} (ex : x = (i : Int)) (hi : i < 6) (hf0 : rd (A 53) i = 0) : R 44 (0, L0 44 [vR 17, vR 47, vI x], [], LAY A F, 0, 0) (fun r G => ∃ (c : Int) (q5 q6 q7 : List Int) (a v : Int), r = some (vI c) ∧ G = LAY (u (u (u A 53 q5) 54 q6) 55 q7) (u (u F 6 a) 7 v) ∧ q5.length = 6 ∧ q6.length = 6 ∧ q7.length = 6 ∧ (c = 0 ∨ c = 1) ∧ 0 ≤ a ∧ a ≤ F 5 ∧ (∀ q : Nat, q ≠ i → rd q5 q = rd (A 53) q) ∧ (∀ q : Nat, q ≠ i → rd q6 q = rd (A 54) q) ∧ (∀ q : Nat, q ≠ i → rd q7 q = rd (A 55) q) ∧ tS (A 18) (F 5) (0, F 6) = (1 - c, a) ∧ (c = 1 → rd q5 i = tF (A 18) (F 5) (0, F 6) + 1 ∧ (tF (A 18) (F 5) (0, F 6) = -1 ∨ (rd q6 i = tG (A 18) (F 5) (0, F 6) ∧ rd q7 i = tH (A 18) (F 5) (0, F 6))))) := by
  have d0 : (A 48).length = 6 := hL 48 (by decide)
  have d1 : (A 49).length = 6 := hL 49 (by decide)
  have d2 : (A 50).length = 6 := hL 50 (by decide)
  have d3 : (A 51).length = 6 := hL 51 (by decide)
  have d4 : (A 52).length = 6 := hL 52 (by decide)
  have d5 : (A 53).length = 6 := hL 53 (by decide)
  have d6 : (A 54).length = 6 := hL 54 (by decide)
  have d7 : (A 55).length = 6 := hL 55 (by decide)
  refine R_s (P := True) (f' := (0, [some (vR 17), some (vR 47), some (vI x), none], [], LAY (u (u (u A 53 (A 53)) 54 (A 54)) 55 (A 55)) (u (u F 6 (F 6)) 7 (F 7)), 0, 0)) hc44 0 rfl trivial ?_
  refine R_s (P := True) (f' := (1, [some (vR 17), some (vR 47), some (vI x), none], [vR 17], LAY (u (u (u A 53 (A 53)) 54 (A 54)) 55 (A 55)) (u (u F 6 (F 6)) 7 (F 7)), 0, 0)) hc44 1 rfl trivial ?_
  refine R_cv hc44 rfl rfl (l_next (A := (u (u (u A 53 (A 53)) 54 (A 54)) 55 (A 55))) (F := (u (u F 6 (F 6)) 7 (F 7))) (LENS_u (LENS_u (LENS_u hL (by show (A 53).length = (A 53).length; omega)) (by show (A 54).length = (A 54).length; omega)) (by show (A 55).length = (A 55).length; omega)) h5 ⟨by (show 0 ≤ F 6); omega, by (show F 6 ≤ F 5); omega⟩) (fun r G9 hp9 => ?_)
  obtain ⟨e1, rfl⟩ := hp9
  have e2 : r = some (vI (nx (A 18) (F 5) (F 6))) := e1
  clear e1
  subst e2
  refine R_s (f' := (4, [some (vR 17), some (vR 47), some (vI x), none], [vI (nx (A 18) (F 5) (F 6))], LAY (u (u (u A 53 (A 53)) 54 (A 54)) 55 (A 55)) (u (u F 6 (F 6)) 7 (F 7)), 0, 0)) hc44 0 rfl trivial ?_
  refine R_s (P := True) (f' := (6, [some (vR 17), some (vR 47), some (vI x), none], [vI 32, vI (nx (A 18) (F 5) (F 6))], LAY (u (u (u A 53 (A 53)) 54 (A 54)) 55 (A 55)) (u (u F 6 (F 6)) 7 (F 7)), 0, 0)) hc44 1 rfl trivial ?_
  refine R_ic (t := 11) hc44 rfl rfl (fun (c1 : nx (A 18) (F 5) (F 6) = 32) => ?_) (fun (c1 : ¬ (nx (A 18) (F 5) (F 6) = 32)) => ?_)
  · refine R_s (P := True) (f' := (14, [some (vR 17), some (vR 47), some (vI x), none], [vS 2, vR 17], LAY (u (u (u A 53 (A 53)) 54 (A 54)) 55 (A 55)) (u (u F 6 (F 6)) 7 (F 7)), 0, 0)) hc44 2 rfl trivial ?_
    refine R_cv hc44 rfl rfl (l_word2 (A := (u (u (u A 53 (A 53)) 54 (A 54)) 55 (A 55))) (F := (u (u F 6 (F 6)) 7 (F 7))) (LENS_u (LENS_u (LENS_u hL (by show (A 53).length = (A 53).length; omega)) (by show (A 54).length = (A 54).length; omega)) (by show (A 55).length = (A 55).length; omega)) h5 ⟨by (show 0 ≤ F 6); omega, by (show F 6 ≤ F 5); omega⟩) (fun r G9 hp9 => ?_)
    obtain ⟨b49, a49, rfl, rfl, hb49, hw49, p49, q49⟩ := hp9
    have p49 : 0 ≤ a49 := p49
    have q49 : a49 ≤ F 5 := q49
    refine R_s (f' := (17, [some (vR 17), some (vR 47), some (vI x), none], [vI b49], LAY (u (u (u A 53 (A 53)) 54 (A 54)) 55 (A 55)) (u (u F 7 (F 7)) 6 a49), 0, 0)) hc44 0 rfl trivial ?_
    refine R_if (t := 29) hc44 rfl rfl (fun (c2 : b49 = 0) => ?_) (fun (c2 : ¬ (b49 = 0)) => ?_)
    · refine R_s (P := True) (f' := (30, [some (vR 17), some (vR 47), some (vI x), none], [vI 0], LAY (u (u (u A 53 (A 53)) 54 (A 54)) 55 (A 55)) (u (u F 7 (F 7)) 6 a49), 0, 0)) hc44 1 rfl trivial ?_
      refine R_retz hc44 rfl rfl (Or.inl rfl) ⟨0, A 53, A 54, A 55, a49, F 7, rfl, rfl, (by (try simp only [wr_len]); omega), (by (try simp only [wr_len]); omega), (by (try simp only [wr_len]); omega), by decide, by omega, by first | omega | (have := nx_in (l := A 18) (n := F 5) (a := F 6) (by omega); omega), fun _ _ => rfl, fun _ _ => rfl, fun _ _ => rfl, ?_, fun z => absurd z (by decide)⟩
      have ehw49 : b49 = 0 := by omega
      rw [ehw49] at hw49
      have hw49n : wD (A 18) (F 5) IFF (0, F 6) = (1, a49) := hw49
      have e2 : t2 (A 18) (F 5) (0, F 6) = ((1, a49), 0) := by
        unfold t2
        rw [hw49n]
        rw [if_neg (show ¬ (1 : Int) = 0 by decide)]
      have e3 : t3 (A 18) (F 5) (0, F 6) = (1, a49) := by
        unfold t3
        rw [e2]
        rw [if_neg (fun z => absurd (show (1 : Int) = 0 from z.1) (by decide))]
      have e4 : dG (A 18) (F 5) 4 (t3 (A 18) (F 5) (0, F 6)) = ((1, a49), 0) := by rw [e3, dG_f]
      have eS : tS (A 18) (F 5) (0, F 6) = (1, a49) := by
        unfold tS
        rw [if_pos ⟨rfl, by (try dsimp only); omega⟩, e4]
      exact eS
    · refine R_s (P := True) (f' := (23, [some (vR 17), some (vR 47), some (vI x), none], [vI x, vR 47, vR 17], LAY (u (u (u A 53 (A 53)) 54 (A 54)) 55 (A 55)) (u (u F 7 (F 7)) 6 a49), 0, 0)) hc44 3 rfl trivial ?_
      refine R_cv hc44 rfl rfl ?_ (fun r G h => h)
      refine R_s (P := True) (f' := (1, [some (vR 17), some (vR 47), some (vI x), none], [vR 17], LAY (u (u (u A 53 (A 53)) 54 (A 54)) 55 (A 55)) (u (u F 7 (F 7)) 6 a49), 0, 0)) hc45 1 rfl trivial ?_
      refine R_cv hc45 rfl rfl (l_next (A := (u (u (u A 53 (A 53)) 54 (A 54)) 55 (A 55))) (F := (u (u F 7 (F 7)) 6 a49)) (LENS_u (LENS_u (LENS_u hL (by show (A 53).length = (A 53).length; omega)) (by show (A 54).length = (A 54).length; omega)) (by show (A 55).length = (A 55).length; omega)) h5 ⟨by (show 0 ≤ a49); omega, by (show a49 ≤ F 5); omega⟩) (fun r G9 hp9 => ?_)
      obtain ⟨e1, rfl⟩ := hp9
      have e2 : r = some (vI (nx (A 18) (F 5) (a49))) := e1
      clear e1
      subst e2
      refine R_s (f' := (4, [some (vR 17), some (vR 47), some (vI x), none], [vI (nx (A 18) (F 5) (a49))], LAY (u (u (u A 53 (A 53)) 54 (A 54)) 55 (A 55)) (u (u F 7 (F 7)) 6 a49), 0, 0)) hc45 0 rfl trivial ?_
      refine R_s (P := True) (f' := (6, [some (vR 17), some (vR 47), some (vI x), none], [vI 97, vI (nx (A 18) (F 5) (a49))], LAY (u (u (u A 53 (A 53)) 54 (A 54)) 55 (A 55)) (u (u F 7 (F 7)) 6 a49), 0, 0)) hc45 1 rfl trivial ?_
      refine R_ic (t := 23) hc45 rfl rfl (fun (c3 : ¬ nx (A 18) (F 5) (a49) = 97) => ?_) (fun (c3 : ¬ (¬ nx (A 18) (F 5) (a49) = 97)) => ?_)
      · refine R_s (P := True) (f' := (26, [some (vR 17), some (vR 47), some (vI x), none], [vS 4, vR 17], LAY (u (u (u A 53 (A 53)) 54 (A 54)) 55 (A 55)) (u (u F 7 (F 7)) 6 a49), 0, 0)) hc45 2 rfl trivial ?_
        refine R_cv hc45 rfl rfl (l_word4 (A := (u (u (u A 53 (A 53)) 54 (A 54)) 55 (A 55))) (F := (u (u F 7 (F 7)) 6 a49)) (LENS_u (LENS_u (LENS_u hL (by show (A 53).length = (A 53).length; omega)) (by show (A 54).length = (A 54).length; omega)) (by show (A 55).length = (A 55).length; omega)) h5 ⟨by (show 0 ≤ a49); omega, by (show a49 ≤ F 5); omega⟩) (fun r G9 hp9 => ?_)
        obtain ⟨b50, a50, rfl, rfl, hb50, hw50, p50, q50⟩ := hp9
        have p50 : 0 ≤ a50 := p50
        have q50 : a50 ≤ F 5 := q50
        refine R_s (f' := (29, [some (vR 17), some (vR 47), some (vI x), none], [vI b50], LAY (u (u (u A 53 (A 53)) 54 (A 54)) 55 (A 55)) (u (u F 7 (F 7)) 6 a50), 0, 0)) hc45 0 rfl trivial ?_
        refine R_if (t := 34) hc45 rfl rfl (fun (c4 : ¬ b50 = 0) => ?_) (fun (c4 : ¬ (¬ b50 = 0)) => ?_)
        · refine R_s (P := True) (f' := (35, [some (vR 17), some (vR 47), some (vI x), none], [vR 17], LAY (u (u (u A 53 (A 53)) 54 (A 54)) 55 (A 55)) (u (u F 7 (F 7)) 6 a50), 0, 0)) hc45 1 rfl trivial ?_
          refine R_cv hc45 rfl rfl (l_next (A := (u (u (u A 53 (A 53)) 54 (A 54)) 55 (A 55))) (F := (u (u F 7 (F 7)) 6 a50)) (LENS_u (LENS_u (LENS_u hL (by show (A 53).length = (A 53).length; omega)) (by show (A 54).length = (A 54).length; omega)) (by show (A 55).length = (A 55).length; omega)) h5 ⟨by (show 0 ≤ a50); omega, by (show a50 ≤ F 5); omega⟩) (fun r G9 hp9 => ?_)
          obtain ⟨e1, rfl⟩ := hp9
          have e2 : r = some (vI (nx (A 18) (F 5) (a50))) := e1
          clear e1
          subst e2
          refine R_s (f' := (38, [some (vR 17), some (vR 47), some (vI x), none], [vI (nx (A 18) (F 5) (a50))], LAY (u (u (u A 53 (A 53)) 54 (A 54)) 55 (A 55)) (u (u F 7 (F 7)) 6 a50), 0, 0)) hc45 0 rfl trivial ?_
          refine R_s (P := True) (f' := (40, [some (vR 17), some (vR 47), some (vI x), none], [vI 101, vI (nx (A 18) (F 5) (a50))], LAY (u (u (u A 53 (A 53)) 54 (A 54)) 55 (A 55)) (u (u F 7 (F 7)) 6 a50), 0, 0)) hc45 1 rfl trivial ?_
          refine R_ic (t := 47) hc45 rfl rfl (fun (c5 : ¬ nx (A 18) (F 5) (a50) = 101) => ?_) (fun (c5 : ¬ (¬ nx (A 18) (F 5) (a50) = 101)) => ?_)
          · refine R_s (P := True) (f' := (55, [some (vR 17), some (vR 47), some (vI x), some (vI 0)], [vI 0, vI x, vR 53], LAY (u (u (u A 53 (A 53)) 54 (A 54)) 55 (A 55)) (u (u F 7 (F 7)) 6 a50), 0, 0)) hc45 6 rfl trivial ?_
            refine R_if (t := 62) hc45 rfl rfl (fun (_ : 0 = 0) => ?_) (fun (z : ¬ (0 = 0)) => absurd (by decide) z)
            refine R_s (P := (0 ≤ x ∧ x < ((A 53).length : Int)) ∧ True) (f' := (66, [some (vR 17), some (vR 47), some (vI x), some (vI 0)], [vI 0, vR 17], LAY (u (u (u A 54 (A 54)) 55 (A 55)) 53 (wr (A 53) x 2)) (u (u F 7 (F 7)) 6 a50), 0, 0)) hc45 4 rfl ⟨⟨by omega, by omega⟩, trivial⟩ ?_
            refine R_if (t := 74) hc45 rfl rfl (fun (_ : 0 = 0) => ?_) (fun (z : ¬ (0 = 0)) => absurd (by decide) z)
            refine R_s (P := True) (f' := (76, [some (vR 17), some (vR 47), some (vI x), some (vI 0)], [vS 6, vR 17], LAY (u (u (u A 54 (A 54)) 55 (A 55)) 53 (wr (A 53) x 2)) (u (u F 7 (F 7)) 6 a50), 0, 0)) hc45 1 rfl trivial ?_
            refine R_cv hc45 rfl rfl (l_word6 (A := (u (u (u A 54 (A 54)) 55 (A 55)) 53 (wr (A 53) x 2))) (F := (u (u F 7 (F 7)) 6 a50)) (LENS_u (LENS_u (LENS_u hL (by show (A 54).length = (A 54).length; omega)) (by show (A 55).length = (A 55).length; omega)) (by show (wr (A 53) x 2).length = (A 53).length; simp only [wr_len])) h5 ⟨by (show 0 ≤ a50); omega, by (show a50 ≤ F 5); omega⟩) (fun r G9 hp9 => ?_)
            obtain ⟨b51, a51, rfl, rfl, hb51, hw51, p51, q51⟩ := hp9
            have p51 : 0 ≤ a51 := p51
            have q51 : a51 ≤ F 5 := q51
            refine R_s (f' := (79, [some (vR 17), some (vR 47), some (vI x), some (vI 0)], [vI b51], LAY (u (u (u A 54 (A 54)) 55 (A 55)) 53 (wr (A 53) x 2)) (u (u F 7 (F 7)) 6 a51), 0, 0)) hc45 0 rfl trivial ?_
            refine R_retz hc45 rfl rfl (by omega) ?_
            refine R_s (f' := (26, [some (vR 17), some (vR 47), some (vI x), none], [vI b51], LAY (u (u (u A 54 (A 54)) 55 (A 55)) 53 (wr (A 53) x 2)) (u (u F 7 (F 7)) 6 a51), 0, 0)) hc44 0 rfl trivial ?_
            refine R_if (t := 31) hc44 rfl rfl (fun (c8 : ¬ b51 = 0) => ?_) (fun (c8 : ¬ (¬ b51 = 0)) => ?_)
            · refine R_s (P := True) (f' := (32, [some (vR 17), some (vR 47), some (vI x), none], [vR 17], LAY (u (u (u A 54 (A 54)) 55 (A 55)) 53 (wr (A 53) x 2)) (u (u F 7 (F 7)) 6 a51), 0, 0)) hc44 1 rfl trivial ?_
              refine R_cv hc44 rfl rfl (l_next (A := (u (u (u A 54 (A 54)) 55 (A 55)) 53 (wr (A 53) x 2))) (F := (u (u F 7 (F 7)) 6 a51)) (LENS_u (LENS_u (LENS_u hL (by show (A 54).length = (A 54).length; omega)) (by show (A 55).length = (A 55).length; omega)) (by show (wr (A 53) x 2).length = (A 53).length; simp only [wr_len])) h5 ⟨by (show 0 ≤ a51); omega, by (show a51 ≤ F 5); omega⟩) (fun r G9 hp9 => ?_)
              obtain ⟨e1, rfl⟩ := hp9
              have e2 : r = some (vI (nx (A 18) (F 5) (a51))) := e1
              clear e1
              subst e2
              refine R_s (f' := (35, [some (vR 17), some (vR 47), some (vI x), none], [vI (nx (A 18) (F 5) (a51))], LAY (u (u (u A 54 (A 54)) 55 (A 55)) 53 (wr (A 53) x 2)) (u (u F 7 (F 7)) 6 a51), 0, 0)) hc44 0 rfl trivial ?_
              refine R_s (P := True) (f' := (39, [some (vR 17), some (vR 47), some (vI x), some (vI (nx (A 18) (F 5) (a51)))], [vI 61, vI (nx (A 18) (F 5) (a51))], LAY (u (u (u A 54 (A 54)) 55 (A 55)) 53 (wr (A 53) x 2)) (u (u F 7 (F 7)) 6 a51), 0, 0)) hc44 3 rfl trivial ?_
              refine R_ic (t := 56) hc44 rfl rfl (fun (c9 : nx (A 18) (F 5) (a51) = 61) => ?_) (fun (c9 : ¬ (nx (A 18) (F 5) (a51) = 61)) => ?_)
              · refine R_s (P := (0 ≤ x ∧ x < ((A 54).length : Int)) ∧ inI (a51 + 1) ∧ True) (f' := (75, [some (vR 17), some (vR 47), some (vI x), some (vI (nx (A 18) (F 5) (a51)))], [vI 4, vR 17], LAY (u (u (u A 55 (A 55)) 53 (wr (A 53) x 2)) 54 (wr (A 54) x (nx (A 18) (F 5) (a51)))) (u (u F 7 (F 7)) 6 (a51 + 1)), 0, 0)) hc44 13 rfl ⟨⟨by omega, by omega⟩, ⟨by omega, by omega⟩, trivial⟩ ?_
                refine R_cv hc44 rfl rfl (l_numb (A := (u (u (u A 55 (A 55)) 53 (wr (A 53) x 2)) 54 (wr (A 54) x (nx (A 18) (F 5) (a51))))) (F := (u (u F 7 (F 7)) 6 (a51 + 1))) (LENS_u (LENS_u (LENS_u hL (by show (A 55).length = (A 55).length; omega)) (by show (wr (A 53) x 2).length = (A 53).length; simp only [wr_len])) (by show (wr (A 54) x (nx (A 18) (F 5) (a51))).length = (A 54).length; simp only [wr_len])) h5 ⟨by (show 0 ≤ a51 + 1); omega, by (have := nx_in (l := A 18) (n := F 5) (a := a51) (by omega)); (show a51 + 1 ≤ F 5); omega⟩ (kk := 4) (by decide) rfl) (fun r G9 hp9 => ?_)
                obtain ⟨b52, a52, v52, rfl, rfl, hb52, hw52, p52, q52, w52⟩ := hp9
                have p52 : 0 ≤ a52 := p52
                have q52 : a52 ≤ F 5 := q52
                refine R_s (f' := (78, [some (vR 17), some (vR 47), some (vI x), some (vI (nx (A 18) (F 5) (a51)))], [vI b52], LAY (u (u (u A 55 (A 55)) 53 (wr (A 53) x 2)) 54 (wr (A 54) x (nx (A 18) (F 5) (a51)))) (u (u F 6 a52) 7 v52), 0, 0)) hc44 0 rfl trivial ?_
                refine R_if (t := 83) hc44 rfl rfl (fun (c10 : ¬ b52 = 0) => ?_) (fun (c10 : ¬ (¬ b52 = 0)) => ?_)
                · refine R_s (P := (0 ≤ x ∧ x < ((A 55).length : Int)) ∧ True) (f' := (94, [some (vR 17), some (vR 47), some (vI x), some (vI (nx (A 18) (F 5) (a51)))], [vI 1], LAY (u (u (u A 53 (wr (A 53) x 2)) 54 (wr (A 54) x (nx (A 18) (F 5) (a51)))) 55 (wr (A 55) x v52)) (u (u F 6 a52) 7 v52), 0, 0)) hc44 7 rfl ⟨⟨by omega, by omega⟩, trivial⟩ ?_
                  refine R_retz hc44 rfl rfl (Or.inr rfl) ⟨1, wr (A 53) x 2, wr (A 54) x (nx (A 18) (F 5) (a51)), wr (A 55) x v52, a52, v52, rfl, rfl, (by (try simp only [wr_len]); omega), (by (try simp only [wr_len]); omega), (by (try simp only [wr_len]); omega), by decide, by omega, by first | omega | (have := nx_in (l := A 18) (n := F 5) (a := F 6) (by omega); omega), fun q hq => by rw [rd_wr_n (by omega) (by omega) (by omega)], fun q hq => by rw [rd_wr_n (by omega) (by omega) (by omega)], fun q hq => by rw [rd_wr_n (by omega) (by omega) (by omega)], ?_⟩
                  have ehw49 : b49 = 1 := by omega
                  rw [ehw49] at hw49
                  have hw49n : wD (A 18) (F 5) IFF (0, F 6) = (0, a49) := hw49
                  have ehw50 : b50 = 1 := by omega
                  rw [ehw50] at hw50
                  have hw50n : wD (A 18) (F 5) YY (0, a49) = (0, a50) := hw50
                  have ehw51 : b51 = 1 := by omega
                  rw [ehw51] at hw51
                  have hw51n : wD (A 18) (F 5) IELD (0, a50) = (0, a51) := hw51
                  have ehw52 : b52 = 1 := by omega
                  rw [ehw52] at hw52
                  have hw52n : dG (A 18) (F 5) 4 (0, a51 + 1) = ((0, a52), v52) := hw52
                  have hYe : eE (A 18) (F 5) 121 (0, a49) = (0, a50) := hw50n
                  have e2 : t2 (A 18) (F 5) (0, F 6) = ((0, a51), 1) := by
                    unfold t2
                    rw [hw49n]
                    rw [if_pos rfl]
                    unfold fD
                    (try dsimp only)
                    rw [if_neg (by omega), hYe]
                    rw [if_neg (fun z => by have := z.2; (try dsimp only at this); omega), hw51n]
                  have e3 : t3 (A 18) (F 5) (0, F 6) = (0, a51 + 1) := by
                    unfold t3
                    rw [e2]
                    rw [if_pos ⟨rfl, by (try dsimp only); omega⟩]
                  have e4 : dG (A 18) (F 5) 4 (t3 (A 18) (F 5) (0, F 6)) = ((0, a52), v52) := by
                    rw [e3]
                    exact hw52n
                  have eS : tS (A 18) (F 5) (0, F 6) = (0, a52) := by
                    unfold tS
                    rw [if_pos ⟨rfl, by (try dsimp only); omega⟩, e4]
                  have eF : tF (A 18) (F 5) (0, F 6) = 1 := by
                    unfold tF
                    rw [if_pos ⟨rfl, by (try dsimp only); omega⟩, e2]
                  have eG : tG (A 18) (F 5) (0, F 6) = nx (A 18) (F 5) (a51) := by
                    unfold tG
                    rw [e2]
                  have eH : tH (A 18) (F 5) (0, F 6) = v52 := by
                    unfold tH
                    rw [e4]
                  refine ⟨eS, fun _ => ⟨?_, .inr ⟨?_, ?_⟩⟩⟩
                  · rw [eF, ← ex, rd_wr_s (by omega) (by (try simp only [wr_len]); omega)]
                    decide
                  · rw [eG, ← ex, rd_wr_s (by omega) (by (try simp only [wr_len]); omega)]
                  · rw [eH, ← ex, rd_wr_s (by omega) (by (try simp only [wr_len]); omega)]
                · refine R_s (P := True) (f' := (82, [some (vR 17), some (vR 47), some (vI x), some (vI (nx (A 18) (F 5) (a51)))], [vI 0], LAY (u (u (u A 55 (A 55)) 53 (wr (A 53) x 2)) 54 (wr (A 54) x (nx (A 18) (F 5) (a51)))) (u (u F 6 a52) 7 v52), 0, 0)) hc44 1 rfl trivial ?_
                  refine R_retz hc44 rfl rfl (Or.inl rfl) ⟨0, wr (A 53) x 2, wr (A 54) x (nx (A 18) (F 5) (a51)), A 55, a52, v52, rfl, rfl, (by (try simp only [wr_len]); omega), (by (try simp only [wr_len]); omega), (by (try simp only [wr_len]); omega), by decide, by omega, by first | omega | (have := nx_in (l := A 18) (n := F 5) (a := F 6) (by omega); omega), fun q hq => by rw [rd_wr_n (by omega) (by omega) (by omega)], fun q hq => by rw [rd_wr_n (by omega) (by omega) (by omega)], fun _ _ => rfl, ?_, fun z => absurd z (by decide)⟩
                  have ehw49 : b49 = 1 := by omega
                  rw [ehw49] at hw49
                  have hw49n : wD (A 18) (F 5) IFF (0, F 6) = (0, a49) := hw49
                  have ehw50 : b50 = 1 := by omega
                  rw [ehw50] at hw50
                  have hw50n : wD (A 18) (F 5) YY (0, a49) = (0, a50) := hw50
                  have ehw51 : b51 = 1 := by omega
                  rw [ehw51] at hw51
                  have hw51n : wD (A 18) (F 5) IELD (0, a50) = (0, a51) := hw51
                  have ehw52 : b52 = 0 := by omega
                  rw [ehw52] at hw52
                  have hw52n : dG (A 18) (F 5) 4 (0, a51 + 1) = ((1, a52), v52) := hw52
                  have hYe : eE (A 18) (F 5) 121 (0, a49) = (0, a50) := hw50n
                  have e2 : t2 (A 18) (F 5) (0, F 6) = ((0, a51), 1) := by
                    unfold t2
                    rw [hw49n]
                    rw [if_pos rfl]
                    unfold fD
                    (try dsimp only)
                    rw [if_neg (by omega), hYe]
                    rw [if_neg (fun z => by have := z.2; (try dsimp only at this); omega), hw51n]
                  have e3 : t3 (A 18) (F 5) (0, F 6) = (0, a51 + 1) := by
                    unfold t3
                    rw [e2]
                    rw [if_pos ⟨rfl, by (try dsimp only); omega⟩]
                  have e4 : dG (A 18) (F 5) 4 (t3 (A 18) (F 5) (0, F 6)) = ((1, a52), v52) := by
                    rw [e3]
                    exact hw52n
                  have eS : tS (A 18) (F 5) (0, F 6) = (1, a52) := by
                    unfold tS
                    rw [if_pos ⟨rfl, by (try dsimp only); omega⟩, e4]
                  exact eS
              · refine R_s (P := True) (f' := (45, [some (vR 17), some (vR 47), some (vI x), some (vI (nx (A 18) (F 5) (a51)))], [vI 60, vI (nx (A 18) (F 5) (a51))], LAY (u (u (u A 54 (A 54)) 55 (A 55)) 53 (wr (A 53) x 2)) (u (u F 7 (F 7)) 6 a51), 0, 0)) hc44 2 rfl trivial ?_
                refine R_ic (t := 56) hc44 rfl rfl (fun (c11 : nx (A 18) (F 5) (a51) = 60) => ?_) (fun (c11 : ¬ (nx (A 18) (F 5) (a51) = 60)) => ?_)
                · refine R_s (P := (0 ≤ x ∧ x < ((A 54).length : Int)) ∧ inI (a51 + 1) ∧ True) (f' := (75, [some (vR 17), some (vR 47), some (vI x), some (vI (nx (A 18) (F 5) (a51)))], [vI 4, vR 17], LAY (u (u (u A 55 (A 55)) 53 (wr (A 53) x 2)) 54 (wr (A 54) x (nx (A 18) (F 5) (a51)))) (u (u F 7 (F 7)) 6 (a51 + 1)), 0, 0)) hc44 13 rfl ⟨⟨by omega, by omega⟩, ⟨by omega, by omega⟩, trivial⟩ ?_
                  refine R_cv hc44 rfl rfl (l_numb (A := (u (u (u A 55 (A 55)) 53 (wr (A 53) x 2)) 54 (wr (A 54) x (nx (A 18) (F 5) (a51))))) (F := (u (u F 7 (F 7)) 6 (a51 + 1))) (LENS_u (LENS_u (LENS_u hL (by show (A 55).length = (A 55).length; omega)) (by show (wr (A 53) x 2).length = (A 53).length; simp only [wr_len])) (by show (wr (A 54) x (nx (A 18) (F 5) (a51))).length = (A 54).length; simp only [wr_len])) h5 ⟨by (show 0 ≤ a51 + 1); omega, by (have := nx_in (l := A 18) (n := F 5) (a := a51) (by omega)); (show a51 + 1 ≤ F 5); omega⟩ (kk := 4) (by decide) rfl) (fun r G9 hp9 => ?_)
                  obtain ⟨b53, a53, v53, rfl, rfl, hb53, hw53, p53, q53, w53⟩ := hp9
                  have p53 : 0 ≤ a53 := p53
                  have q53 : a53 ≤ F 5 := q53
                  refine R_s (f' := (78, [some (vR 17), some (vR 47), some (vI x), some (vI (nx (A 18) (F 5) (a51)))], [vI b53], LAY (u (u (u A 55 (A 55)) 53 (wr (A 53) x 2)) 54 (wr (A 54) x (nx (A 18) (F 5) (a51)))) (u (u F 6 a53) 7 v53), 0, 0)) hc44 0 rfl trivial ?_
                  refine R_if (t := 83) hc44 rfl rfl (fun (c12 : ¬ b53 = 0) => ?_) (fun (c12 : ¬ (¬ b53 = 0)) => ?_)
                  · refine R_s (P := (0 ≤ x ∧ x < ((A 55).length : Int)) ∧ True) (f' := (94, [some (vR 17), some (vR 47), some (vI x), some (vI (nx (A 18) (F 5) (a51)))], [vI 1], LAY (u (u (u A 53 (wr (A 53) x 2)) 54 (wr (A 54) x (nx (A 18) (F 5) (a51)))) 55 (wr (A 55) x v53)) (u (u F 6 a53) 7 v53), 0, 0)) hc44 7 rfl ⟨⟨by omega, by omega⟩, trivial⟩ ?_
                    refine R_retz hc44 rfl rfl (Or.inr rfl) ⟨1, wr (A 53) x 2, wr (A 54) x (nx (A 18) (F 5) (a51)), wr (A 55) x v53, a53, v53, rfl, rfl, (by (try simp only [wr_len]); omega), (by (try simp only [wr_len]); omega), (by (try simp only [wr_len]); omega), by decide, by omega, by first | omega | (have := nx_in (l := A 18) (n := F 5) (a := F 6) (by omega); omega), fun q hq => by rw [rd_wr_n (by omega) (by omega) (by omega)], fun q hq => by rw [rd_wr_n (by omega) (by omega) (by omega)], fun q hq => by rw [rd_wr_n (by omega) (by omega) (by omega)], ?_⟩
                    have ehw49 : b49 = 1 := by omega
                    rw [ehw49] at hw49
                    have hw49n : wD (A 18) (F 5) IFF (0, F 6) = (0, a49) := hw49
                    have ehw50 : b50 = 1 := by omega
                    rw [ehw50] at hw50
                    have hw50n : wD (A 18) (F 5) YY (0, a49) = (0, a50) := hw50
                    have ehw51 : b51 = 1 := by omega
                    rw [ehw51] at hw51
                    have hw51n : wD (A 18) (F 5) IELD (0, a50) = (0, a51) := hw51
                    have ehw53 : b53 = 1 := by omega
                    rw [ehw53] at hw53
                    have hw53n : dG (A 18) (F 5) 4 (0, a51 + 1) = ((0, a53), v53) := hw53
                    have hYe : eE (A 18) (F 5) 121 (0, a49) = (0, a50) := hw50n
                    have e2 : t2 (A 18) (F 5) (0, F 6) = ((0, a51), 1) := by
                      unfold t2
                      rw [hw49n]
                      rw [if_pos rfl]
                      unfold fD
                      (try dsimp only)
                      rw [if_neg (by omega), hYe]
                      rw [if_neg (fun z => by have := z.2; (try dsimp only at this); omega), hw51n]
                    have e3 : t3 (A 18) (F 5) (0, F 6) = (0, a51 + 1) := by
                      unfold t3
                      rw [e2]
                      rw [if_pos ⟨rfl, by (try dsimp only); omega⟩]
                    have e4 : dG (A 18) (F 5) 4 (t3 (A 18) (F 5) (0, F 6)) = ((0, a53), v53) := by
                      rw [e3]
                      exact hw53n
                    have eS : tS (A 18) (F 5) (0, F 6) = (0, a53) := by
                      unfold tS
                      rw [if_pos ⟨rfl, by (try dsimp only); omega⟩, e4]
                    have eF : tF (A 18) (F 5) (0, F 6) = 1 := by
                      unfold tF
                      rw [if_pos ⟨rfl, by (try dsimp only); omega⟩, e2]
                    have eG : tG (A 18) (F 5) (0, F 6) = nx (A 18) (F 5) (a51) := by
                      unfold tG
                      rw [e2]
                    have eH : tH (A 18) (F 5) (0, F 6) = v53 := by
                      unfold tH
                      rw [e4]
                    refine ⟨eS, fun _ => ⟨?_, .inr ⟨?_, ?_⟩⟩⟩
                    · rw [eF, ← ex, rd_wr_s (by omega) (by (try simp only [wr_len]); omega)]
                      decide
                    · rw [eG, ← ex, rd_wr_s (by omega) (by (try simp only [wr_len]); omega)]
                    · rw [eH, ← ex, rd_wr_s (by omega) (by (try simp only [wr_len]); omega)]
                  · refine R_s (P := True) (f' := (82, [some (vR 17), some (vR 47), some (vI x), some (vI (nx (A 18) (F 5) (a51)))], [vI 0], LAY (u (u (u A 55 (A 55)) 53 (wr (A 53) x 2)) 54 (wr (A 54) x (nx (A 18) (F 5) (a51)))) (u (u F 6 a53) 7 v53), 0, 0)) hc44 1 rfl trivial ?_
                    refine R_retz hc44 rfl rfl (Or.inl rfl) ⟨0, wr (A 53) x 2, wr (A 54) x (nx (A 18) (F 5) (a51)), A 55, a53, v53, rfl, rfl, (by (try simp only [wr_len]); omega), (by (try simp only [wr_len]); omega), (by (try simp only [wr_len]); omega), by decide, by omega, by first | omega | (have := nx_in (l := A 18) (n := F 5) (a := F 6) (by omega); omega), fun q hq => by rw [rd_wr_n (by omega) (by omega) (by omega)], fun q hq => by rw [rd_wr_n (by omega) (by omega) (by omega)], fun _ _ => rfl, ?_, fun z => absurd z (by decide)⟩
                    have ehw49 : b49 = 1 := by omega
                    rw [ehw49] at hw49
                    have hw49n : wD (A 18) (F 5) IFF (0, F 6) = (0, a49) := hw49
                    have ehw50 : b50 = 1 := by omega
                    rw [ehw50] at hw50
                    have hw50n : wD (A 18) (F 5) YY (0, a49) = (0, a50) := hw50
                    have ehw51 : b51 = 1 := by omega
                    rw [ehw51] at hw51
                    have hw51n : wD (A 18) (F 5) IELD (0, a50) = (0, a51) := hw51
                    have ehw53 : b53 = 0 := by omega
                    rw [ehw53] at hw53
                    have hw53n : dG (A 18) (F 5) 4 (0, a51 + 1) = ((1, a53), v53) := hw53
                    have hYe : eE (A 18) (F 5) 121 (0, a49) = (0, a50) := hw50n
                    have e2 : t2 (A 18) (F 5) (0, F 6) = ((0, a51), 1) := by
                      unfold t2
                      rw [hw49n]
                      rw [if_pos rfl]
                      unfold fD
                      (try dsimp only)
                      rw [if_neg (by omega), hYe]
                      rw [if_neg (fun z => by have := z.2; (try dsimp only at this); omega), hw51n]
                    have e3 : t3 (A 18) (F 5) (0, F 6) = (0, a51 + 1) := by
                      unfold t3
                      rw [e2]
                      rw [if_pos ⟨rfl, by (try dsimp only); omega⟩]
                    have e4 : dG (A 18) (F 5) 4 (t3 (A 18) (F 5) (0, F 6)) = ((1, a53), v53) := by
                      rw [e3]
                      exact hw53n
                    have eS : tS (A 18) (F 5) (0, F 6) = (1, a53) := by
                      unfold tS
                      rw [if_pos ⟨rfl, by (try dsimp only); omega⟩, e4]
                    exact eS
                · refine R_s (P := True) (f' := (51, [some (vR 17), some (vR 47), some (vI x), some (vI (nx (A 18) (F 5) (a51)))], [vI 62, vI (nx (A 18) (F 5) (a51))], LAY (u (u (u A 54 (A 54)) 55 (A 55)) 53 (wr (A 53) x 2)) (u (u F 7 (F 7)) 6 a51), 0, 0)) hc44 2 rfl trivial ?_
                  refine R_ic (t := 56) hc44 rfl rfl (fun (c13 : nx (A 18) (F 5) (a51) = 62) => ?_) (fun (c13 : ¬ (nx (A 18) (F 5) (a51) = 62)) => ?_)
                  · refine R_s (P := (0 ≤ x ∧ x < ((A 54).length : Int)) ∧ inI (a51 + 1) ∧ True) (f' := (75, [some (vR 17), some (vR 47), some (vI x), some (vI (nx (A 18) (F 5) (a51)))], [vI 4, vR 17], LAY (u (u (u A 55 (A 55)) 53 (wr (A 53) x 2)) 54 (wr (A 54) x (nx (A 18) (F 5) (a51)))) (u (u F 7 (F 7)) 6 (a51 + 1)), 0, 0)) hc44 13 rfl ⟨⟨by omega, by omega⟩, ⟨by omega, by omega⟩, trivial⟩ ?_
                    refine R_cv hc44 rfl rfl (l_numb (A := (u (u (u A 55 (A 55)) 53 (wr (A 53) x 2)) 54 (wr (A 54) x (nx (A 18) (F 5) (a51))))) (F := (u (u F 7 (F 7)) 6 (a51 + 1))) (LENS_u (LENS_u (LENS_u hL (by show (A 55).length = (A 55).length; omega)) (by show (wr (A 53) x 2).length = (A 53).length; simp only [wr_len])) (by show (wr (A 54) x (nx (A 18) (F 5) (a51))).length = (A 54).length; simp only [wr_len])) h5 ⟨by (show 0 ≤ a51 + 1); omega, by (have := nx_in (l := A 18) (n := F 5) (a := a51) (by omega)); (show a51 + 1 ≤ F 5); omega⟩ (kk := 4) (by decide) rfl) (fun r G9 hp9 => ?_)
                    obtain ⟨b54, a54, v54, rfl, rfl, hb54, hw54, p54, q54, w54⟩ := hp9
                    have p54 : 0 ≤ a54 := p54
                    have q54 : a54 ≤ F 5 := q54
                    refine R_s (f' := (78, [some (vR 17), some (vR 47), some (vI x), some (vI (nx (A 18) (F 5) (a51)))], [vI b54], LAY (u (u (u A 55 (A 55)) 53 (wr (A 53) x 2)) 54 (wr (A 54) x (nx (A 18) (F 5) (a51)))) (u (u F 6 a54) 7 v54), 0, 0)) hc44 0 rfl trivial ?_
                    refine R_if (t := 83) hc44 rfl rfl (fun (c14 : ¬ b54 = 0) => ?_) (fun (c14 : ¬ (¬ b54 = 0)) => ?_)
                    · refine R_s (P := (0 ≤ x ∧ x < ((A 55).length : Int)) ∧ True) (f' := (94, [some (vR 17), some (vR 47), some (vI x), some (vI (nx (A 18) (F 5) (a51)))], [vI 1], LAY (u (u (u A 53 (wr (A 53) x 2)) 54 (wr (A 54) x (nx (A 18) (F 5) (a51)))) 55 (wr (A 55) x v54)) (u (u F 6 a54) 7 v54), 0, 0)) hc44 7 rfl ⟨⟨by omega, by omega⟩, trivial⟩ ?_
                      refine R_retz hc44 rfl rfl (Or.inr rfl) ⟨1, wr (A 53) x 2, wr (A 54) x (nx (A 18) (F 5) (a51)), wr (A 55) x v54, a54, v54, rfl, rfl, (by (try simp only [wr_len]); omega), (by (try simp only [wr_len]); omega), (by (try simp only [wr_len]); omega), by decide, by omega, by first | omega | (have := nx_in (l := A 18) (n := F 5) (a := F 6) (by omega); omega), fun q hq => by rw [rd_wr_n (by omega) (by omega) (by omega)], fun q hq => by rw [rd_wr_n (by omega) (by omega) (by omega)], fun q hq => by rw [rd_wr_n (by omega) (by omega) (by omega)], ?_⟩
                      have ehw49 : b49 = 1 := by omega
                      rw [ehw49] at hw49
                      have hw49n : wD (A 18) (F 5) IFF (0, F 6) = (0, a49) := hw49
                      have ehw50 : b50 = 1 := by omega
                      rw [ehw50] at hw50
                      have hw50n : wD (A 18) (F 5) YY (0, a49) = (0, a50) := hw50
                      have ehw51 : b51 = 1 := by omega
                      rw [ehw51] at hw51
                      have hw51n : wD (A 18) (F 5) IELD (0, a50) = (0, a51) := hw51
                      have ehw54 : b54 = 1 := by omega
                      rw [ehw54] at hw54
                      have hw54n : dG (A 18) (F 5) 4 (0, a51 + 1) = ((0, a54), v54) := hw54
                      have hYe : eE (A 18) (F 5) 121 (0, a49) = (0, a50) := hw50n
                      have e2 : t2 (A 18) (F 5) (0, F 6) = ((0, a51), 1) := by
                        unfold t2
                        rw [hw49n]
                        rw [if_pos rfl]
                        unfold fD
                        (try dsimp only)
                        rw [if_neg (by omega), hYe]
                        rw [if_neg (fun z => by have := z.2; (try dsimp only at this); omega), hw51n]
                      have e3 : t3 (A 18) (F 5) (0, F 6) = (0, a51 + 1) := by
                        unfold t3
                        rw [e2]
                        rw [if_pos ⟨rfl, by (try dsimp only); omega⟩]
                      have e4 : dG (A 18) (F 5) 4 (t3 (A 18) (F 5) (0, F 6)) = ((0, a54), v54) := by
                        rw [e3]
                        exact hw54n
                      have eS : tS (A 18) (F 5) (0, F 6) = (0, a54) := by
                        unfold tS
                        rw [if_pos ⟨rfl, by (try dsimp only); omega⟩, e4]
                      have eF : tF (A 18) (F 5) (0, F 6) = 1 := by
                        unfold tF
                        rw [if_pos ⟨rfl, by (try dsimp only); omega⟩, e2]
                      have eG : tG (A 18) (F 5) (0, F 6) = nx (A 18) (F 5) (a51) := by
                        unfold tG
                        rw [e2]
                      have eH : tH (A 18) (F 5) (0, F 6) = v54 := by
                        unfold tH
                        rw [e4]
                      refine ⟨eS, fun _ => ⟨?_, .inr ⟨?_, ?_⟩⟩⟩
                      · rw [eF, ← ex, rd_wr_s (by omega) (by (try simp only [wr_len]); omega)]
                        decide
                      · rw [eG, ← ex, rd_wr_s (by omega) (by (try simp only [wr_len]); omega)]
                      · rw [eH, ← ex, rd_wr_s (by omega) (by (try simp only [wr_len]); omega)]
                    · refine R_s (P := True) (f' := (82, [some (vR 17), some (vR 47), some (vI x), some (vI (nx (A 18) (F 5) (a51)))], [vI 0], LAY (u (u (u A 55 (A 55)) 53 (wr (A 53) x 2)) 54 (wr (A 54) x (nx (A 18) (F 5) (a51)))) (u (u F 6 a54) 7 v54), 0, 0)) hc44 1 rfl trivial ?_
                      refine R_retz hc44 rfl rfl (Or.inl rfl) ⟨0, wr (A 53) x 2, wr (A 54) x (nx (A 18) (F 5) (a51)), A 55, a54, v54, rfl, rfl, (by (try simp only [wr_len]); omega), (by (try simp only [wr_len]); omega), (by (try simp only [wr_len]); omega), by decide, by omega, by first | omega | (have := nx_in (l := A 18) (n := F 5) (a := F 6) (by omega); omega), fun q hq => by rw [rd_wr_n (by omega) (by omega) (by omega)], fun q hq => by rw [rd_wr_n (by omega) (by omega) (by omega)], fun _ _ => rfl, ?_, fun z => absurd z (by decide)⟩
                      have ehw49 : b49 = 1 := by omega
                      rw [ehw49] at hw49
                      have hw49n : wD (A 18) (F 5) IFF (0, F 6) = (0, a49) := hw49
                      have ehw50 : b50 = 1 := by omega
                      rw [ehw50] at hw50
                      have hw50n : wD (A 18) (F 5) YY (0, a49) = (0, a50) := hw50
                      have ehw51 : b51 = 1 := by omega
                      rw [ehw51] at hw51
                      have hw51n : wD (A 18) (F 5) IELD (0, a50) = (0, a51) := hw51
                      have ehw54 : b54 = 0 := by omega
                      rw [ehw54] at hw54
                      have hw54n : dG (A 18) (F 5) 4 (0, a51 + 1) = ((1, a54), v54) := hw54
                      have hYe : eE (A 18) (F 5) 121 (0, a49) = (0, a50) := hw50n
                      have e2 : t2 (A 18) (F 5) (0, F 6) = ((0, a51), 1) := by
                        unfold t2
                        rw [hw49n]
                        rw [if_pos rfl]
                        unfold fD
                        (try dsimp only)
                        rw [if_neg (by omega), hYe]
                        rw [if_neg (fun z => by have := z.2; (try dsimp only at this); omega), hw51n]
                      have e3 : t3 (A 18) (F 5) (0, F 6) = (0, a51 + 1) := by
                        unfold t3
                        rw [e2]
                        rw [if_pos ⟨rfl, by (try dsimp only); omega⟩]
                      have e4 : dG (A 18) (F 5) 4 (t3 (A 18) (F 5) (0, F 6)) = ((1, a54), v54) := by
                        rw [e3]
                        exact hw54n
                      have eS : tS (A 18) (F 5) (0, F 6) = (1, a54) := by
                        unfold tS
                        rw [if_pos ⟨rfl, by (try dsimp only); omega⟩, e4]
                      exact eS
                  · refine R_s (P := True) (f' := (55, [some (vR 17), some (vR 47), some (vI x), some (vI (nx (A 18) (F 5) (a51)))], [vI 0], LAY (u (u (u A 54 (A 54)) 55 (A 55)) 53 (wr (A 53) x 2)) (u (u F 7 (F 7)) 6 a51), 0, 0)) hc44 1 rfl trivial ?_
                    refine R_retz hc44 rfl rfl (Or.inl rfl) ⟨0, wr (A 53) x 2, A 54, A 55, a51, F 7, rfl, rfl, (by (try simp only [wr_len]); omega), (by (try simp only [wr_len]); omega), (by (try simp only [wr_len]); omega), by decide, by omega, by first | omega | (have := nx_in (l := A 18) (n := F 5) (a := F 6) (by omega); omega), fun q hq => by rw [rd_wr_n (by omega) (by omega) (by omega)], fun _ _ => rfl, fun _ _ => rfl, ?_, fun z => absurd z (by decide)⟩
                    have ehw49 : b49 = 1 := by omega
                    rw [ehw49] at hw49
                    have hw49n : wD (A 18) (F 5) IFF (0, F 6) = (0, a49) := hw49
                    have ehw50 : b50 = 1 := by omega
                    rw [ehw50] at hw50
                    have hw50n : wD (A 18) (F 5) YY (0, a49) = (0, a50) := hw50
                    have ehw51 : b51 = 1 := by omega
                    rw [ehw51] at hw51
                    have hw51n : wD (A 18) (F 5) IELD (0, a50) = (0, a51) := hw51
                    have hYe : eE (A 18) (F 5) 121 (0, a49) = (0, a50) := hw50n
                    have e2 : t2 (A 18) (F 5) (0, F 6) = ((0, a51), 1) := by
                      unfold t2
                      rw [hw49n]
                      rw [if_pos rfl]
                      unfold fD
                      (try dsimp only)
                      rw [if_neg (by omega), hYe]
                      rw [if_neg (fun z => by have := z.2; (try dsimp only at this); omega), hw51n]
                    have e3 : t3 (A 18) (F 5) (0, F 6) = (1, a51) := by
                      unfold t3
                      rw [e2]
                      rw [if_neg (fun z => by have := z.2; (try dsimp only at this); omega)]
                    have e4 : dG (A 18) (F 5) 4 (t3 (A 18) (F 5) (0, F 6)) = ((1, a51), 0) := by rw [e3, dG_f]
                    have eS : tS (A 18) (F 5) (0, F 6) = (1, a51) := by
                      unfold tS
                      rw [if_pos ⟨rfl, by (try dsimp only); omega⟩, e4]
                    exact eS
            · refine R_s (P := True) (f' := (30, [some (vR 17), some (vR 47), some (vI x), none], [vI 0], LAY (u (u (u A 54 (A 54)) 55 (A 55)) 53 (wr (A 53) x 2)) (u (u F 7 (F 7)) 6 a51), 0, 0)) hc44 1 rfl trivial ?_
              refine R_retz hc44 rfl rfl (Or.inl rfl) ⟨0, wr (A 53) x 2, A 54, A 55, a51, F 7, rfl, rfl, (by (try simp only [wr_len]); omega), (by (try simp only [wr_len]); omega), (by (try simp only [wr_len]); omega), by decide, by omega, by first | omega | (have := nx_in (l := A 18) (n := F 5) (a := F 6) (by omega); omega), fun q hq => by rw [rd_wr_n (by omega) (by omega) (by omega)], fun _ _ => rfl, fun _ _ => rfl, ?_, fun z => absurd z (by decide)⟩
              have ehw49 : b49 = 1 := by omega
              rw [ehw49] at hw49
              have hw49n : wD (A 18) (F 5) IFF (0, F 6) = (0, a49) := hw49
              have ehw50 : b50 = 1 := by omega
              rw [ehw50] at hw50
              have hw50n : wD (A 18) (F 5) YY (0, a49) = (0, a50) := hw50
              have ehw51 : b51 = 0 := by omega
              rw [ehw51] at hw51
              have hw51n : wD (A 18) (F 5) IELD (0, a50) = (1, a51) := hw51
              have hYe : eE (A 18) (F 5) 121 (0, a49) = (0, a50) := hw50n
              have e2 : t2 (A 18) (F 5) (0, F 6) = ((1, a51), 1) := by
                unfold t2
                rw [hw49n]
                rw [if_pos rfl]
                unfold fD
                (try dsimp only)
                rw [if_neg (by omega), hYe]
                rw [if_neg (fun z => by have := z.2; (try dsimp only at this); omega), hw51n]
              have e3 : t3 (A 18) (F 5) (0, F 6) = (1, a51) := by
                unfold t3
                rw [e2]
                rw [if_neg (fun z => absurd (show (1 : Int) = 0 from z.1) (by decide))]
              have e4 : dG (A 18) (F 5) 4 (t3 (A 18) (F 5) (0, F 6)) = ((1, a51), 0) := by rw [e3, dG_f]
              have eS : tS (A 18) (F 5) (0, F 6) = (1, a51) := by
                unfold tS
                rw [if_pos ⟨rfl, by (try dsimp only); omega⟩, e4]
              exact eS
          · refine R_s (P := True) (f' := (55, [some (vR 17), some (vR 47), some (vI x), some (vI 1)], [vI 1, vI x, vR 53], LAY (u (u (u A 53 (A 53)) 54 (A 54)) 55 (A 55)) (u (u F 7 (F 7)) 6 a50), 0, 0)) hc45 7 rfl trivial ?_
            refine R_if (t := 62) hc45 rfl rfl (fun (z : 1 = 0) => absurd z (by decide)) (fun (_ : ¬ (1 = 0)) => ?_)
            refine R_s (P := (0 ≤ x ∧ x < ((A 53).length : Int)) ∧ True) (f' := (66, [some (vR 17), some (vR 47), some (vI x), some (vI 1)], [vI 1, vR 17], LAY (u (u (u A 54 (A 54)) 55 (A 55)) 53 (wr (A 53) x 1)) (u (u F 7 (F 7)) 6 a50), 0, 0)) hc45 5 rfl ⟨⟨by omega, by omega⟩, trivial⟩ ?_
            refine R_if (t := 74) hc45 rfl rfl (fun (z : 1 = 0) => absurd z (by decide)) (fun (_ : ¬ (1 = 0)) => ?_)
            refine R_s (P := True) (f' := (76, [some (vR 17), some (vR 47), some (vI x), some (vI 1)], [vS 5, vR 17], LAY (u (u (u A 54 (A 54)) 55 (A 55)) 53 (wr (A 53) x 1)) (u (u F 7 (F 7)) 6 a50), 0, 0)) hc45 2 rfl trivial ?_
            refine R_cv hc45 rfl rfl (l_word5 (A := (u (u (u A 54 (A 54)) 55 (A 55)) 53 (wr (A 53) x 1))) (F := (u (u F 7 (F 7)) 6 a50)) (LENS_u (LENS_u (LENS_u hL (by show (A 54).length = (A 54).length; omega)) (by show (A 55).length = (A 55).length; omega)) (by show (wr (A 53) x 1).length = (A 53).length; simp only [wr_len])) h5 ⟨by (show 0 ≤ a50); omega, by (show a50 ≤ F 5); omega⟩) (fun r G9 hp9 => ?_)
            obtain ⟨b55, a55, rfl, rfl, hb55, hw55, p55, q55⟩ := hp9
            have p55 : 0 ≤ a55 := p55
            have q55 : a55 ≤ F 5 := q55
            refine R_s (f' := (79, [some (vR 17), some (vR 47), some (vI x), some (vI 1)], [vI b55], LAY (u (u (u A 54 (A 54)) 55 (A 55)) 53 (wr (A 53) x 1)) (u (u F 7 (F 7)) 6 a55), 0, 0)) hc45 0 rfl trivial ?_
            refine R_retz hc45 rfl rfl (by omega) ?_
            refine R_s (f' := (26, [some (vR 17), some (vR 47), some (vI x), none], [vI b55], LAY (u (u (u A 54 (A 54)) 55 (A 55)) 53 (wr (A 53) x 1)) (u (u F 7 (F 7)) 6 a55), 0, 0)) hc44 0 rfl trivial ?_
            refine R_if (t := 31) hc44 rfl rfl (fun (c10 : ¬ b55 = 0) => ?_) (fun (c10 : ¬ (¬ b55 = 0)) => ?_)
            · refine R_s (P := True) (f' := (32, [some (vR 17), some (vR 47), some (vI x), none], [vR 17], LAY (u (u (u A 54 (A 54)) 55 (A 55)) 53 (wr (A 53) x 1)) (u (u F 7 (F 7)) 6 a55), 0, 0)) hc44 1 rfl trivial ?_
              refine R_cv hc44 rfl rfl (l_next (A := (u (u (u A 54 (A 54)) 55 (A 55)) 53 (wr (A 53) x 1))) (F := (u (u F 7 (F 7)) 6 a55)) (LENS_u (LENS_u (LENS_u hL (by show (A 54).length = (A 54).length; omega)) (by show (A 55).length = (A 55).length; omega)) (by show (wr (A 53) x 1).length = (A 53).length; simp only [wr_len])) h5 ⟨by (show 0 ≤ a55); omega, by (show a55 ≤ F 5); omega⟩) (fun r G9 hp9 => ?_)
              obtain ⟨e1, rfl⟩ := hp9
              have e2 : r = some (vI (nx (A 18) (F 5) (a55))) := e1
              clear e1
              subst e2
              refine R_s (f' := (35, [some (vR 17), some (vR 47), some (vI x), none], [vI (nx (A 18) (F 5) (a55))], LAY (u (u (u A 54 (A 54)) 55 (A 55)) 53 (wr (A 53) x 1)) (u (u F 7 (F 7)) 6 a55), 0, 0)) hc44 0 rfl trivial ?_
              refine R_s (P := True) (f' := (39, [some (vR 17), some (vR 47), some (vI x), some (vI (nx (A 18) (F 5) (a55)))], [vI 61, vI (nx (A 18) (F 5) (a55))], LAY (u (u (u A 54 (A 54)) 55 (A 55)) 53 (wr (A 53) x 1)) (u (u F 7 (F 7)) 6 a55), 0, 0)) hc44 3 rfl trivial ?_
              refine R_ic (t := 56) hc44 rfl rfl (fun (c11 : nx (A 18) (F 5) (a55) = 61) => ?_) (fun (c11 : ¬ (nx (A 18) (F 5) (a55) = 61)) => ?_)
              · refine R_s (P := (0 ≤ x ∧ x < ((A 54).length : Int)) ∧ inI (a55 + 1) ∧ True) (f' := (75, [some (vR 17), some (vR 47), some (vI x), some (vI (nx (A 18) (F 5) (a55)))], [vI 4, vR 17], LAY (u (u (u A 55 (A 55)) 53 (wr (A 53) x 1)) 54 (wr (A 54) x (nx (A 18) (F 5) (a55)))) (u (u F 7 (F 7)) 6 (a55 + 1)), 0, 0)) hc44 13 rfl ⟨⟨by omega, by omega⟩, ⟨by omega, by omega⟩, trivial⟩ ?_
                refine R_cv hc44 rfl rfl (l_numb (A := (u (u (u A 55 (A 55)) 53 (wr (A 53) x 1)) 54 (wr (A 54) x (nx (A 18) (F 5) (a55))))) (F := (u (u F 7 (F 7)) 6 (a55 + 1))) (LENS_u (LENS_u (LENS_u hL (by show (A 55).length = (A 55).length; omega)) (by show (wr (A 53) x 1).length = (A 53).length; simp only [wr_len])) (by show (wr (A 54) x (nx (A 18) (F 5) (a55))).length = (A 54).length; simp only [wr_len])) h5 ⟨by (show 0 ≤ a55 + 1); omega, by (have := nx_in (l := A 18) (n := F 5) (a := a55) (by omega)); (show a55 + 1 ≤ F 5); omega⟩ (kk := 4) (by decide) rfl) (fun r G9 hp9 => ?_)
                obtain ⟨b56, a56, v56, rfl, rfl, hb56, hw56, p56, q56, w56⟩ := hp9
                have p56 : 0 ≤ a56 := p56
                have q56 : a56 ≤ F 5 := q56
                refine R_s (f' := (78, [some (vR 17), some (vR 47), some (vI x), some (vI (nx (A 18) (F 5) (a55)))], [vI b56], LAY (u (u (u A 55 (A 55)) 53 (wr (A 53) x 1)) 54 (wr (A 54) x (nx (A 18) (F 5) (a55)))) (u (u F 6 a56) 7 v56), 0, 0)) hc44 0 rfl trivial ?_
                refine R_if (t := 83) hc44 rfl rfl (fun (c12 : ¬ b56 = 0) => ?_) (fun (c12 : ¬ (¬ b56 = 0)) => ?_)
                · refine R_s (P := (0 ≤ x ∧ x < ((A 55).length : Int)) ∧ True) (f' := (94, [some (vR 17), some (vR 47), some (vI x), some (vI (nx (A 18) (F 5) (a55)))], [vI 1], LAY (u (u (u A 53 (wr (A 53) x 1)) 54 (wr (A 54) x (nx (A 18) (F 5) (a55)))) 55 (wr (A 55) x v56)) (u (u F 6 a56) 7 v56), 0, 0)) hc44 7 rfl ⟨⟨by omega, by omega⟩, trivial⟩ ?_
                  refine R_retz hc44 rfl rfl (Or.inr rfl) ⟨1, wr (A 53) x 1, wr (A 54) x (nx (A 18) (F 5) (a55)), wr (A 55) x v56, a56, v56, rfl, rfl, (by (try simp only [wr_len]); omega), (by (try simp only [wr_len]); omega), (by (try simp only [wr_len]); omega), by decide, by omega, by first | omega | (have := nx_in (l := A 18) (n := F 5) (a := F 6) (by omega); omega), fun q hq => by rw [rd_wr_n (by omega) (by omega) (by omega)], fun q hq => by rw [rd_wr_n (by omega) (by omega) (by omega)], fun q hq => by rw [rd_wr_n (by omega) (by omega) (by omega)], ?_⟩
                  have ehw49 : b49 = 1 := by omega
                  rw [ehw49] at hw49
                  have hw49n : wD (A 18) (F 5) IFF (0, F 6) = (0, a49) := hw49
                  have ehw50 : b50 = 1 := by omega
                  rw [ehw50] at hw50
                  have hw50n : wD (A 18) (F 5) YY (0, a49) = (0, a50) := hw50
                  have ehw55 : b55 = 1 := by omega
                  rw [ehw55] at hw55
                  have hw55n : wD (A 18) (F 5) EAR (0, a50) = (0, a55) := hw55
                  have ehw56 : b56 = 1 := by omega
                  rw [ehw56] at hw56
                  have hw56n : dG (A 18) (F 5) 4 (0, a55 + 1) = ((0, a56), v56) := hw56
                  have hYe : eE (A 18) (F 5) 121 (0, a49) = (0, a50) := hw50n
                  have e2 : t2 (A 18) (F 5) (0, F 6) = ((0, a55), 0) := by
                    unfold t2
                    rw [hw49n]
                    rw [if_pos rfl]
                    unfold fD
                    (try dsimp only)
                    rw [if_neg (by omega), hYe]
                    rw [if_pos ⟨rfl, by (try dsimp only); omega⟩, hw55n]
                  have e3 : t3 (A 18) (F 5) (0, F 6) = (0, a55 + 1) := by
                    unfold t3
                    rw [e2]
                    rw [if_pos ⟨rfl, by (try dsimp only); omega⟩]
                  have e4 : dG (A 18) (F 5) 4 (t3 (A 18) (F 5) (0, F 6)) = ((0, a56), v56) := by
                    rw [e3]
                    exact hw56n
                  have eS : tS (A 18) (F 5) (0, F 6) = (0, a56) := by
                    unfold tS
                    rw [if_pos ⟨rfl, by (try dsimp only); omega⟩, e4]
                  have eF : tF (A 18) (F 5) (0, F 6) = 0 := by
                    unfold tF
                    rw [if_pos ⟨rfl, by (try dsimp only); omega⟩, e2]
                  have eG : tG (A 18) (F 5) (0, F 6) = nx (A 18) (F 5) (a55) := by
                    unfold tG
                    rw [e2]
                  have eH : tH (A 18) (F 5) (0, F 6) = v56 := by
                    unfold tH
                    rw [e4]
                  refine ⟨eS, fun _ => ⟨?_, .inr ⟨?_, ?_⟩⟩⟩
                  · rw [eF, ← ex, rd_wr_s (by omega) (by (try simp only [wr_len]); omega)]
                    decide
                  · rw [eG, ← ex, rd_wr_s (by omega) (by (try simp only [wr_len]); omega)]
                  · rw [eH, ← ex, rd_wr_s (by omega) (by (try simp only [wr_len]); omega)]
                · refine R_s (P := True) (f' := (82, [some (vR 17), some (vR 47), some (vI x), some (vI (nx (A 18) (F 5) (a55)))], [vI 0], LAY (u (u (u A 55 (A 55)) 53 (wr (A 53) x 1)) 54 (wr (A 54) x (nx (A 18) (F 5) (a55)))) (u (u F 6 a56) 7 v56), 0, 0)) hc44 1 rfl trivial ?_
                  refine R_retz hc44 rfl rfl (Or.inl rfl) ⟨0, wr (A 53) x 1, wr (A 54) x (nx (A 18) (F 5) (a55)), A 55, a56, v56, rfl, rfl, (by (try simp only [wr_len]); omega), (by (try simp only [wr_len]); omega), (by (try simp only [wr_len]); omega), by decide, by omega, by first | omega | (have := nx_in (l := A 18) (n := F 5) (a := F 6) (by omega); omega), fun q hq => by rw [rd_wr_n (by omega) (by omega) (by omega)], fun q hq => by rw [rd_wr_n (by omega) (by omega) (by omega)], fun _ _ => rfl, ?_, fun z => absurd z (by decide)⟩
                  have ehw49 : b49 = 1 := by omega
                  rw [ehw49] at hw49
                  have hw49n : wD (A 18) (F 5) IFF (0, F 6) = (0, a49) := hw49
                  have ehw50 : b50 = 1 := by omega
                  rw [ehw50] at hw50
                  have hw50n : wD (A 18) (F 5) YY (0, a49) = (0, a50) := hw50
                  have ehw55 : b55 = 1 := by omega
                  rw [ehw55] at hw55
                  have hw55n : wD (A 18) (F 5) EAR (0, a50) = (0, a55) := hw55
                  have ehw56 : b56 = 0 := by omega
                  rw [ehw56] at hw56
                  have hw56n : dG (A 18) (F 5) 4 (0, a55 + 1) = ((1, a56), v56) := hw56
                  have hYe : eE (A 18) (F 5) 121 (0, a49) = (0, a50) := hw50n
                  have e2 : t2 (A 18) (F 5) (0, F 6) = ((0, a55), 0) := by
                    unfold t2
                    rw [hw49n]
                    rw [if_pos rfl]
                    unfold fD
                    (try dsimp only)
                    rw [if_neg (by omega), hYe]
                    rw [if_pos ⟨rfl, by (try dsimp only); omega⟩, hw55n]
                  have e3 : t3 (A 18) (F 5) (0, F 6) = (0, a55 + 1) := by
                    unfold t3
                    rw [e2]
                    rw [if_pos ⟨rfl, by (try dsimp only); omega⟩]
                  have e4 : dG (A 18) (F 5) 4 (t3 (A 18) (F 5) (0, F 6)) = ((1, a56), v56) := by
                    rw [e3]
                    exact hw56n
                  have eS : tS (A 18) (F 5) (0, F 6) = (1, a56) := by
                    unfold tS
                    rw [if_pos ⟨rfl, by (try dsimp only); omega⟩, e4]
                  exact eS
              · refine R_s (P := True) (f' := (45, [some (vR 17), some (vR 47), some (vI x), some (vI (nx (A 18) (F 5) (a55)))], [vI 60, vI (nx (A 18) (F 5) (a55))], LAY (u (u (u A 54 (A 54)) 55 (A 55)) 53 (wr (A 53) x 1)) (u (u F 7 (F 7)) 6 a55), 0, 0)) hc44 2 rfl trivial ?_
                refine R_ic (t := 56) hc44 rfl rfl (fun (c13 : nx (A 18) (F 5) (a55) = 60) => ?_) (fun (c13 : ¬ (nx (A 18) (F 5) (a55) = 60)) => ?_)
                · refine R_s (P := (0 ≤ x ∧ x < ((A 54).length : Int)) ∧ inI (a55 + 1) ∧ True) (f' := (75, [some (vR 17), some (vR 47), some (vI x), some (vI (nx (A 18) (F 5) (a55)))], [vI 4, vR 17], LAY (u (u (u A 55 (A 55)) 53 (wr (A 53) x 1)) 54 (wr (A 54) x (nx (A 18) (F 5) (a55)))) (u (u F 7 (F 7)) 6 (a55 + 1)), 0, 0)) hc44 13 rfl ⟨⟨by omega, by omega⟩, ⟨by omega, by omega⟩, trivial⟩ ?_
                  refine R_cv hc44 rfl rfl (l_numb (A := (u (u (u A 55 (A 55)) 53 (wr (A 53) x 1)) 54 (wr (A 54) x (nx (A 18) (F 5) (a55))))) (F := (u (u F 7 (F 7)) 6 (a55 + 1))) (LENS_u (LENS_u (LENS_u hL (by show (A 55).length = (A 55).length; omega)) (by show (wr (A 53) x 1).length = (A 53).length; simp only [wr_len])) (by show (wr (A 54) x (nx (A 18) (F 5) (a55))).length = (A 54).length; simp only [wr_len])) h5 ⟨by (show 0 ≤ a55 + 1); omega, by (have := nx_in (l := A 18) (n := F 5) (a := a55) (by omega)); (show a55 + 1 ≤ F 5); omega⟩ (kk := 4) (by decide) rfl) (fun r G9 hp9 => ?_)
                  obtain ⟨b57, a57, v57, rfl, rfl, hb57, hw57, p57, q57, w57⟩ := hp9
                  have p57 : 0 ≤ a57 := p57
                  have q57 : a57 ≤ F 5 := q57
                  refine R_s (f' := (78, [some (vR 17), some (vR 47), some (vI x), some (vI (nx (A 18) (F 5) (a55)))], [vI b57], LAY (u (u (u A 55 (A 55)) 53 (wr (A 53) x 1)) 54 (wr (A 54) x (nx (A 18) (F 5) (a55)))) (u (u F 6 a57) 7 v57), 0, 0)) hc44 0 rfl trivial ?_
                  refine R_if (t := 83) hc44 rfl rfl (fun (c14 : ¬ b57 = 0) => ?_) (fun (c14 : ¬ (¬ b57 = 0)) => ?_)
                  · refine R_s (P := (0 ≤ x ∧ x < ((A 55).length : Int)) ∧ True) (f' := (94, [some (vR 17), some (vR 47), some (vI x), some (vI (nx (A 18) (F 5) (a55)))], [vI 1], LAY (u (u (u A 53 (wr (A 53) x 1)) 54 (wr (A 54) x (nx (A 18) (F 5) (a55)))) 55 (wr (A 55) x v57)) (u (u F 6 a57) 7 v57), 0, 0)) hc44 7 rfl ⟨⟨by omega, by omega⟩, trivial⟩ ?_
                    refine R_retz hc44 rfl rfl (Or.inr rfl) ⟨1, wr (A 53) x 1, wr (A 54) x (nx (A 18) (F 5) (a55)), wr (A 55) x v57, a57, v57, rfl, rfl, (by (try simp only [wr_len]); omega), (by (try simp only [wr_len]); omega), (by (try simp only [wr_len]); omega), by decide, by omega, by first | omega | (have := nx_in (l := A 18) (n := F 5) (a := F 6) (by omega); omega), fun q hq => by rw [rd_wr_n (by omega) (by omega) (by omega)], fun q hq => by rw [rd_wr_n (by omega) (by omega) (by omega)], fun q hq => by rw [rd_wr_n (by omega) (by omega) (by omega)], ?_⟩
                    have ehw49 : b49 = 1 := by omega
                    rw [ehw49] at hw49
                    have hw49n : wD (A 18) (F 5) IFF (0, F 6) = (0, a49) := hw49
                    have ehw50 : b50 = 1 := by omega
                    rw [ehw50] at hw50
                    have hw50n : wD (A 18) (F 5) YY (0, a49) = (0, a50) := hw50
                    have ehw55 : b55 = 1 := by omega
                    rw [ehw55] at hw55
                    have hw55n : wD (A 18) (F 5) EAR (0, a50) = (0, a55) := hw55
                    have ehw57 : b57 = 1 := by omega
                    rw [ehw57] at hw57
                    have hw57n : dG (A 18) (F 5) 4 (0, a55 + 1) = ((0, a57), v57) := hw57
                    have hYe : eE (A 18) (F 5) 121 (0, a49) = (0, a50) := hw50n
                    have e2 : t2 (A 18) (F 5) (0, F 6) = ((0, a55), 0) := by
                      unfold t2
                      rw [hw49n]
                      rw [if_pos rfl]
                      unfold fD
                      (try dsimp only)
                      rw [if_neg (by omega), hYe]
                      rw [if_pos ⟨rfl, by (try dsimp only); omega⟩, hw55n]
                    have e3 : t3 (A 18) (F 5) (0, F 6) = (0, a55 + 1) := by
                      unfold t3
                      rw [e2]
                      rw [if_pos ⟨rfl, by (try dsimp only); omega⟩]
                    have e4 : dG (A 18) (F 5) 4 (t3 (A 18) (F 5) (0, F 6)) = ((0, a57), v57) := by
                      rw [e3]
                      exact hw57n
                    have eS : tS (A 18) (F 5) (0, F 6) = (0, a57) := by
                      unfold tS
                      rw [if_pos ⟨rfl, by (try dsimp only); omega⟩, e4]
                    have eF : tF (A 18) (F 5) (0, F 6) = 0 := by
                      unfold tF
                      rw [if_pos ⟨rfl, by (try dsimp only); omega⟩, e2]
                    have eG : tG (A 18) (F 5) (0, F 6) = nx (A 18) (F 5) (a55) := by
                      unfold tG
                      rw [e2]
                    have eH : tH (A 18) (F 5) (0, F 6) = v57 := by
                      unfold tH
                      rw [e4]
                    refine ⟨eS, fun _ => ⟨?_, .inr ⟨?_, ?_⟩⟩⟩
                    · rw [eF, ← ex, rd_wr_s (by omega) (by (try simp only [wr_len]); omega)]
                      decide
                    · rw [eG, ← ex, rd_wr_s (by omega) (by (try simp only [wr_len]); omega)]
                    · rw [eH, ← ex, rd_wr_s (by omega) (by (try simp only [wr_len]); omega)]
                  · refine R_s (P := True) (f' := (82, [some (vR 17), some (vR 47), some (vI x), some (vI (nx (A 18) (F 5) (a55)))], [vI 0], LAY (u (u (u A 55 (A 55)) 53 (wr (A 53) x 1)) 54 (wr (A 54) x (nx (A 18) (F 5) (a55)))) (u (u F 6 a57) 7 v57), 0, 0)) hc44 1 rfl trivial ?_
                    refine R_retz hc44 rfl rfl (Or.inl rfl) ⟨0, wr (A 53) x 1, wr (A 54) x (nx (A 18) (F 5) (a55)), A 55, a57, v57, rfl, rfl, (by (try simp only [wr_len]); omega), (by (try simp only [wr_len]); omega), (by (try simp only [wr_len]); omega), by decide, by omega, by first | omega | (have := nx_in (l := A 18) (n := F 5) (a := F 6) (by omega); omega), fun q hq => by rw [rd_wr_n (by omega) (by omega) (by omega)], fun q hq => by rw [rd_wr_n (by omega) (by omega) (by omega)], fun _ _ => rfl, ?_, fun z => absurd z (by decide)⟩
                    have ehw49 : b49 = 1 := by omega
                    rw [ehw49] at hw49
                    have hw49n : wD (A 18) (F 5) IFF (0, F 6) = (0, a49) := hw49
                    have ehw50 : b50 = 1 := by omega
                    rw [ehw50] at hw50
                    have hw50n : wD (A 18) (F 5) YY (0, a49) = (0, a50) := hw50
                    have ehw55 : b55 = 1 := by omega
                    rw [ehw55] at hw55
                    have hw55n : wD (A 18) (F 5) EAR (0, a50) = (0, a55) := hw55
                    have ehw57 : b57 = 0 := by omega
                    rw [ehw57] at hw57
                    have hw57n : dG (A 18) (F 5) 4 (0, a55 + 1) = ((1, a57), v57) := hw57
                    have hYe : eE (A 18) (F 5) 121 (0, a49) = (0, a50) := hw50n
                    have e2 : t2 (A 18) (F 5) (0, F 6) = ((0, a55), 0) := by
                      unfold t2
                      rw [hw49n]
                      rw [if_pos rfl]
                      unfold fD
                      (try dsimp only)
                      rw [if_neg (by omega), hYe]
                      rw [if_pos ⟨rfl, by (try dsimp only); omega⟩, hw55n]
                    have e3 : t3 (A 18) (F 5) (0, F 6) = (0, a55 + 1) := by
                      unfold t3
                      rw [e2]
                      rw [if_pos ⟨rfl, by (try dsimp only); omega⟩]
                    have e4 : dG (A 18) (F 5) 4 (t3 (A 18) (F 5) (0, F 6)) = ((1, a57), v57) := by
                      rw [e3]
                      exact hw57n
                    have eS : tS (A 18) (F 5) (0, F 6) = (1, a57) := by
                      unfold tS
                      rw [if_pos ⟨rfl, by (try dsimp only); omega⟩, e4]
                    exact eS
                · refine R_s (P := True) (f' := (51, [some (vR 17), some (vR 47), some (vI x), some (vI (nx (A 18) (F 5) (a55)))], [vI 62, vI (nx (A 18) (F 5) (a55))], LAY (u (u (u A 54 (A 54)) 55 (A 55)) 53 (wr (A 53) x 1)) (u (u F 7 (F 7)) 6 a55), 0, 0)) hc44 2 rfl trivial ?_
                  refine R_ic (t := 56) hc44 rfl rfl (fun (c15 : nx (A 18) (F 5) (a55) = 62) => ?_) (fun (c15 : ¬ (nx (A 18) (F 5) (a55) = 62)) => ?_)
                  · refine R_s (P := (0 ≤ x ∧ x < ((A 54).length : Int)) ∧ inI (a55 + 1) ∧ True) (f' := (75, [some (vR 17), some (vR 47), some (vI x), some (vI (nx (A 18) (F 5) (a55)))], [vI 4, vR 17], LAY (u (u (u A 55 (A 55)) 53 (wr (A 53) x 1)) 54 (wr (A 54) x (nx (A 18) (F 5) (a55)))) (u (u F 7 (F 7)) 6 (a55 + 1)), 0, 0)) hc44 13 rfl ⟨⟨by omega, by omega⟩, ⟨by omega, by omega⟩, trivial⟩ ?_
                    refine R_cv hc44 rfl rfl (l_numb (A := (u (u (u A 55 (A 55)) 53 (wr (A 53) x 1)) 54 (wr (A 54) x (nx (A 18) (F 5) (a55))))) (F := (u (u F 7 (F 7)) 6 (a55 + 1))) (LENS_u (LENS_u (LENS_u hL (by show (A 55).length = (A 55).length; omega)) (by show (wr (A 53) x 1).length = (A 53).length; simp only [wr_len])) (by show (wr (A 54) x (nx (A 18) (F 5) (a55))).length = (A 54).length; simp only [wr_len])) h5 ⟨by (show 0 ≤ a55 + 1); omega, by (have := nx_in (l := A 18) (n := F 5) (a := a55) (by omega)); (show a55 + 1 ≤ F 5); omega⟩ (kk := 4) (by decide) rfl) (fun r G9 hp9 => ?_)
                    obtain ⟨b58, a58, v58, rfl, rfl, hb58, hw58, p58, q58, w58⟩ := hp9
                    have p58 : 0 ≤ a58 := p58
                    have q58 : a58 ≤ F 5 := q58
                    refine R_s (f' := (78, [some (vR 17), some (vR 47), some (vI x), some (vI (nx (A 18) (F 5) (a55)))], [vI b58], LAY (u (u (u A 55 (A 55)) 53 (wr (A 53) x 1)) 54 (wr (A 54) x (nx (A 18) (F 5) (a55)))) (u (u F 6 a58) 7 v58), 0, 0)) hc44 0 rfl trivial ?_
                    refine R_if (t := 83) hc44 rfl rfl (fun (c16 : ¬ b58 = 0) => ?_) (fun (c16 : ¬ (¬ b58 = 0)) => ?_)
                    · refine R_s (P := (0 ≤ x ∧ x < ((A 55).length : Int)) ∧ True) (f' := (94, [some (vR 17), some (vR 47), some (vI x), some (vI (nx (A 18) (F 5) (a55)))], [vI 1], LAY (u (u (u A 53 (wr (A 53) x 1)) 54 (wr (A 54) x (nx (A 18) (F 5) (a55)))) 55 (wr (A 55) x v58)) (u (u F 6 a58) 7 v58), 0, 0)) hc44 7 rfl ⟨⟨by omega, by omega⟩, trivial⟩ ?_
                      refine R_retz hc44 rfl rfl (Or.inr rfl) ⟨1, wr (A 53) x 1, wr (A 54) x (nx (A 18) (F 5) (a55)), wr (A 55) x v58, a58, v58, rfl, rfl, (by (try simp only [wr_len]); omega), (by (try simp only [wr_len]); omega), (by (try simp only [wr_len]); omega), by decide, by omega, by first | omega | (have := nx_in (l := A 18) (n := F 5) (a := F 6) (by omega); omega), fun q hq => by rw [rd_wr_n (by omega) (by omega) (by omega)], fun q hq => by rw [rd_wr_n (by omega) (by omega) (by omega)], fun q hq => by rw [rd_wr_n (by omega) (by omega) (by omega)], ?_⟩
                      have ehw49 : b49 = 1 := by omega
                      rw [ehw49] at hw49
                      have hw49n : wD (A 18) (F 5) IFF (0, F 6) = (0, a49) := hw49
                      have ehw50 : b50 = 1 := by omega
                      rw [ehw50] at hw50
                      have hw50n : wD (A 18) (F 5) YY (0, a49) = (0, a50) := hw50
                      have ehw55 : b55 = 1 := by omega
                      rw [ehw55] at hw55
                      have hw55n : wD (A 18) (F 5) EAR (0, a50) = (0, a55) := hw55
                      have ehw58 : b58 = 1 := by omega
                      rw [ehw58] at hw58
                      have hw58n : dG (A 18) (F 5) 4 (0, a55 + 1) = ((0, a58), v58) := hw58
                      have hYe : eE (A 18) (F 5) 121 (0, a49) = (0, a50) := hw50n
                      have e2 : t2 (A 18) (F 5) (0, F 6) = ((0, a55), 0) := by
                        unfold t2
                        rw [hw49n]
                        rw [if_pos rfl]
                        unfold fD
                        (try dsimp only)
                        rw [if_neg (by omega), hYe]
                        rw [if_pos ⟨rfl, by (try dsimp only); omega⟩, hw55n]
                      have e3 : t3 (A 18) (F 5) (0, F 6) = (0, a55 + 1) := by
                        unfold t3
                        rw [e2]
                        rw [if_pos ⟨rfl, by (try dsimp only); omega⟩]
                      have e4 : dG (A 18) (F 5) 4 (t3 (A 18) (F 5) (0, F 6)) = ((0, a58), v58) := by
                        rw [e3]
                        exact hw58n
                      have eS : tS (A 18) (F 5) (0, F 6) = (0, a58) := by
                        unfold tS
                        rw [if_pos ⟨rfl, by (try dsimp only); omega⟩, e4]
                      have eF : tF (A 18) (F 5) (0, F 6) = 0 := by
                        unfold tF
                        rw [if_pos ⟨rfl, by (try dsimp only); omega⟩, e2]
                      have eG : tG (A 18) (F 5) (0, F 6) = nx (A 18) (F 5) (a55) := by
                        unfold tG
                        rw [e2]
                      have eH : tH (A 18) (F 5) (0, F 6) = v58 := by
                        unfold tH
                        rw [e4]
                      refine ⟨eS, fun _ => ⟨?_, .inr ⟨?_, ?_⟩⟩⟩
                      · rw [eF, ← ex, rd_wr_s (by omega) (by (try simp only [wr_len]); omega)]
                        decide
                      · rw [eG, ← ex, rd_wr_s (by omega) (by (try simp only [wr_len]); omega)]
                      · rw [eH, ← ex, rd_wr_s (by omega) (by (try simp only [wr_len]); omega)]
                    · refine R_s (P := True) (f' := (82, [some (vR 17), some (vR 47), some (vI x), some (vI (nx (A 18) (F 5) (a55)))], [vI 0], LAY (u (u (u A 55 (A 55)) 53 (wr (A 53) x 1)) 54 (wr (A 54) x (nx (A 18) (F 5) (a55)))) (u (u F 6 a58) 7 v58), 0, 0)) hc44 1 rfl trivial ?_
                      refine R_retz hc44 rfl rfl (Or.inl rfl) ⟨0, wr (A 53) x 1, wr (A 54) x (nx (A 18) (F 5) (a55)), A 55, a58, v58, rfl, rfl, (by (try simp only [wr_len]); omega), (by (try simp only [wr_len]); omega), (by (try simp only [wr_len]); omega), by decide, by omega, by first | omega | (have := nx_in (l := A 18) (n := F 5) (a := F 6) (by omega); omega), fun q hq => by rw [rd_wr_n (by omega) (by omega) (by omega)], fun q hq => by rw [rd_wr_n (by omega) (by omega) (by omega)], fun _ _ => rfl, ?_, fun z => absurd z (by decide)⟩
                      have ehw49 : b49 = 1 := by omega
                      rw [ehw49] at hw49
                      have hw49n : wD (A 18) (F 5) IFF (0, F 6) = (0, a49) := hw49
                      have ehw50 : b50 = 1 := by omega
                      rw [ehw50] at hw50
                      have hw50n : wD (A 18) (F 5) YY (0, a49) = (0, a50) := hw50
                      have ehw55 : b55 = 1 := by omega
                      rw [ehw55] at hw55
                      have hw55n : wD (A 18) (F 5) EAR (0, a50) = (0, a55) := hw55
                      have ehw58 : b58 = 0 := by omega
                      rw [ehw58] at hw58
                      have hw58n : dG (A 18) (F 5) 4 (0, a55 + 1) = ((1, a58), v58) := hw58
                      have hYe : eE (A 18) (F 5) 121 (0, a49) = (0, a50) := hw50n
                      have e2 : t2 (A 18) (F 5) (0, F 6) = ((0, a55), 0) := by
                        unfold t2
                        rw [hw49n]
                        rw [if_pos rfl]
                        unfold fD
                        (try dsimp only)
                        rw [if_neg (by omega), hYe]
                        rw [if_pos ⟨rfl, by (try dsimp only); omega⟩, hw55n]
                      have e3 : t3 (A 18) (F 5) (0, F 6) = (0, a55 + 1) := by
                        unfold t3
                        rw [e2]
                        rw [if_pos ⟨rfl, by (try dsimp only); omega⟩]
                      have e4 : dG (A 18) (F 5) 4 (t3 (A 18) (F 5) (0, F 6)) = ((1, a58), v58) := by
                        rw [e3]
                        exact hw58n
                      have eS : tS (A 18) (F 5) (0, F 6) = (1, a58) := by
                        unfold tS
                        rw [if_pos ⟨rfl, by (try dsimp only); omega⟩, e4]
                      exact eS
                  · refine R_s (P := True) (f' := (55, [some (vR 17), some (vR 47), some (vI x), some (vI (nx (A 18) (F 5) (a55)))], [vI 0], LAY (u (u (u A 54 (A 54)) 55 (A 55)) 53 (wr (A 53) x 1)) (u (u F 7 (F 7)) 6 a55), 0, 0)) hc44 1 rfl trivial ?_
                    refine R_retz hc44 rfl rfl (Or.inl rfl) ⟨0, wr (A 53) x 1, A 54, A 55, a55, F 7, rfl, rfl, (by (try simp only [wr_len]); omega), (by (try simp only [wr_len]); omega), (by (try simp only [wr_len]); omega), by decide, by omega, by first | omega | (have := nx_in (l := A 18) (n := F 5) (a := F 6) (by omega); omega), fun q hq => by rw [rd_wr_n (by omega) (by omega) (by omega)], fun _ _ => rfl, fun _ _ => rfl, ?_, fun z => absurd z (by decide)⟩
                    have ehw49 : b49 = 1 := by omega
                    rw [ehw49] at hw49
                    have hw49n : wD (A 18) (F 5) IFF (0, F 6) = (0, a49) := hw49
                    have ehw50 : b50 = 1 := by omega
                    rw [ehw50] at hw50
                    have hw50n : wD (A 18) (F 5) YY (0, a49) = (0, a50) := hw50
                    have ehw55 : b55 = 1 := by omega
                    rw [ehw55] at hw55
                    have hw55n : wD (A 18) (F 5) EAR (0, a50) = (0, a55) := hw55
                    have hYe : eE (A 18) (F 5) 121 (0, a49) = (0, a50) := hw50n
                    have e2 : t2 (A 18) (F 5) (0, F 6) = ((0, a55), 0) := by
                      unfold t2
                      rw [hw49n]
                      rw [if_pos rfl]
                      unfold fD
                      (try dsimp only)
                      rw [if_neg (by omega), hYe]
                      rw [if_pos ⟨rfl, by (try dsimp only); omega⟩, hw55n]
                    have e3 : t3 (A 18) (F 5) (0, F 6) = (1, a55) := by
                      unfold t3
                      rw [e2]
                      rw [if_neg (fun z => by have := z.2; (try dsimp only at this); omega)]
                    have e4 : dG (A 18) (F 5) 4 (t3 (A 18) (F 5) (0, F 6)) = ((1, a55), 0) := by rw [e3, dG_f]
                    have eS : tS (A 18) (F 5) (0, F 6) = (1, a55) := by
                      unfold tS
                      rw [if_pos ⟨rfl, by (try dsimp only); omega⟩, e4]
                    exact eS
            · refine R_s (P := True) (f' := (30, [some (vR 17), some (vR 47), some (vI x), none], [vI 0], LAY (u (u (u A 54 (A 54)) 55 (A 55)) 53 (wr (A 53) x 1)) (u (u F 7 (F 7)) 6 a55), 0, 0)) hc44 1 rfl trivial ?_
              refine R_retz hc44 rfl rfl (Or.inl rfl) ⟨0, wr (A 53) x 1, A 54, A 55, a55, F 7, rfl, rfl, (by (try simp only [wr_len]); omega), (by (try simp only [wr_len]); omega), (by (try simp only [wr_len]); omega), by decide, by omega, by first | omega | (have := nx_in (l := A 18) (n := F 5) (a := F 6) (by omega); omega), fun q hq => by rw [rd_wr_n (by omega) (by omega) (by omega)], fun _ _ => rfl, fun _ _ => rfl, ?_, fun z => absurd z (by decide)⟩
              have ehw49 : b49 = 1 := by omega
              rw [ehw49] at hw49
              have hw49n : wD (A 18) (F 5) IFF (0, F 6) = (0, a49) := hw49
              have ehw50 : b50 = 1 := by omega
              rw [ehw50] at hw50
              have hw50n : wD (A 18) (F 5) YY (0, a49) = (0, a50) := hw50
              have ehw55 : b55 = 0 := by omega
              rw [ehw55] at hw55
              have hw55n : wD (A 18) (F 5) EAR (0, a50) = (1, a55) := hw55
              have hYe : eE (A 18) (F 5) 121 (0, a49) = (0, a50) := hw50n
              have e2 : t2 (A 18) (F 5) (0, F 6) = ((1, a55), 0) := by
                unfold t2
                rw [hw49n]
                rw [if_pos rfl]
                unfold fD
                (try dsimp only)
                rw [if_neg (by omega), hYe]
                rw [if_pos ⟨rfl, by (try dsimp only); omega⟩, hw55n]
              have e3 : t3 (A 18) (F 5) (0, F 6) = (1, a55) := by
                unfold t3
                rw [e2]
                rw [if_neg (fun z => absurd (show (1 : Int) = 0 from z.1) (by decide))]
              have e4 : dG (A 18) (F 5) 4 (t3 (A 18) (F 5) (0, F 6)) = ((1, a55), 0) := by rw [e3, dG_f]
              have eS : tS (A 18) (F 5) (0, F 6) = (1, a55) := by
                unfold tS
                rw [if_pos ⟨rfl, by (try dsimp only); omega⟩, e4]
              exact eS
        · refine R_s (P := True) (f' := (33, [some (vR 17), some (vR 47), some (vI x), none], [vI 0], LAY (u (u (u A 53 (A 53)) 54 (A 54)) 55 (A 55)) (u (u F 7 (F 7)) 6 a50), 0, 0)) hc45 1 rfl trivial ?_
          refine R_retz hc45 rfl rfl (Or.inl rfl) ?_
          refine R_s (f' := (26, [some (vR 17), some (vR 47), some (vI x), none], [vI 0], LAY (u (u (u A 53 (A 53)) 54 (A 54)) 55 (A 55)) (u (u F 7 (F 7)) 6 a50), 0, 0)) hc44 0 rfl trivial ?_
          refine R_if (t := 31) hc44 rfl rfl (fun (z : ¬ 0 = 0) => absurd z (by decide)) (fun (_ : ¬ (¬ 0 = 0)) => ?_)
          refine R_s (P := True) (f' := (30, [some (vR 17), some (vR 47), some (vI x), none], [vI 0], LAY (u (u (u A 53 (A 53)) 54 (A 54)) 55 (A 55)) (u (u F 7 (F 7)) 6 a50), 0, 0)) hc44 1 rfl trivial ?_
          refine R_retz hc44 rfl rfl (Or.inl rfl) ⟨0, A 53, A 54, A 55, a50, F 7, rfl, rfl, (by (try simp only [wr_len]); omega), (by (try simp only [wr_len]); omega), (by (try simp only [wr_len]); omega), by decide, by omega, by first | omega | (have := nx_in (l := A 18) (n := F 5) (a := F 6) (by omega); omega), fun _ _ => rfl, fun _ _ => rfl, fun _ _ => rfl, ?_, fun z => absurd z (by decide)⟩
          have ehw49 : b49 = 1 := by omega
          rw [ehw49] at hw49
          have hw49n : wD (A 18) (F 5) IFF (0, F 6) = (0, a49) := hw49
          have ehw50 : b50 = 0 := by omega
          rw [ehw50] at hw50
          have hw50n : wD (A 18) (F 5) YY (0, a49) = (1, a50) := hw50
          have hYe : eE (A 18) (F 5) 121 (0, a49) = (1, a50) := hw50n
          have e2 : t2 (A 18) (F 5) (0, F 6) = ((1, a50), 1) := by
            unfold t2
            rw [hw49n]
            rw [if_pos rfl]
            unfold fD
            (try dsimp only)
            rw [if_neg (by omega), hYe]
            rw [if_neg (fun z => absurd (show (1 : Int) = 0 from z.1) (by decide)), wD_f]
          have e3 : t3 (A 18) (F 5) (0, F 6) = (1, a50) := by
            unfold t3
            rw [e2]
            rw [if_neg (fun z => absurd (show (1 : Int) = 0 from z.1) (by decide))]
          have e4 : dG (A 18) (F 5) 4 (t3 (A 18) (F 5) (0, F 6)) = ((1, a50), 0) := by rw [e3, dG_f]
          have eS : tS (A 18) (F 5) (0, F 6) = (1, a50) := by
            unfold tS
            rw [if_pos ⟨rfl, by (try dsimp only); omega⟩, e4]
          exact eS
      · refine R_s (P := (0 ≤ x ∧ x < ((A 53).length : Int)) ∧ True) (f' := (19, [some (vR 17), some (vR 47), some (vI x), none], [vS 3, vR 17], LAY (u (u (u A 54 (A 54)) 55 (A 55)) 53 (wr (A 53) x 3)) (u (u F 7 (F 7)) 6 a49), 0, 0)) hc45 7 rfl ⟨⟨by omega, by omega⟩, trivial⟩ ?_
        refine R_cv hc45 rfl rfl (l_word3 (A := (u (u (u A 54 (A 54)) 55 (A 55)) 53 (wr (A 53) x 3))) (F := (u (u F 7 (F 7)) 6 a49)) (LENS_u (LENS_u (LENS_u hL (by show (A 54).length = (A 54).length; omega)) (by show (A 55).length = (A 55).length; omega)) (by show (wr (A 53) x 3).length = (A 53).length; simp only [wr_len])) h5 ⟨by (show 0 ≤ a49); omega, by (show a49 ≤ F 5); omega⟩) (fun r G9 hp9 => ?_)
        obtain ⟨b59, a59, rfl, rfl, hb59, hw59, p59, q59⟩ := hp9
        have p59 : 0 ≤ a59 := p59
        have q59 : a59 ≤ F 5 := q59
        refine R_s (f' := (22, [some (vR 17), some (vR 47), some (vI x), none], [vI b59], LAY (u (u (u A 54 (A 54)) 55 (A 55)) 53 (wr (A 53) x 3)) (u (u F 7 (F 7)) 6 a59), 0, 0)) hc45 0 rfl trivial ?_
        refine R_retz hc45 rfl rfl (by omega) ?_
        refine R_s (f' := (26, [some (vR 17), some (vR 47), some (vI x), none], [vI b59], LAY (u (u (u A 54 (A 54)) 55 (A 55)) 53 (wr (A 53) x 3)) (u (u F 7 (F 7)) 6 a59), 0, 0)) hc44 0 rfl trivial ?_
        refine R_if (t := 31) hc44 rfl rfl (fun (c10 : ¬ b59 = 0) => ?_) (fun (c10 : ¬ (¬ b59 = 0)) => ?_)
        · refine R_s (P := True) (f' := (32, [some (vR 17), some (vR 47), some (vI x), none], [vR 17], LAY (u (u (u A 54 (A 54)) 55 (A 55)) 53 (wr (A 53) x 3)) (u (u F 7 (F 7)) 6 a59), 0, 0)) hc44 1 rfl trivial ?_
          refine R_cv hc44 rfl rfl (l_next (A := (u (u (u A 54 (A 54)) 55 (A 55)) 53 (wr (A 53) x 3))) (F := (u (u F 7 (F 7)) 6 a59)) (LENS_u (LENS_u (LENS_u hL (by show (A 54).length = (A 54).length; omega)) (by show (A 55).length = (A 55).length; omega)) (by show (wr (A 53) x 3).length = (A 53).length; simp only [wr_len])) h5 ⟨by (show 0 ≤ a59); omega, by (show a59 ≤ F 5); omega⟩) (fun r G9 hp9 => ?_)
          obtain ⟨e1, rfl⟩ := hp9
          have e2 : r = some (vI (nx (A 18) (F 5) (a59))) := e1
          clear e1
          subst e2
          refine R_s (f' := (35, [some (vR 17), some (vR 47), some (vI x), none], [vI (nx (A 18) (F 5) (a59))], LAY (u (u (u A 54 (A 54)) 55 (A 55)) 53 (wr (A 53) x 3)) (u (u F 7 (F 7)) 6 a59), 0, 0)) hc44 0 rfl trivial ?_
          refine R_s (P := True) (f' := (39, [some (vR 17), some (vR 47), some (vI x), some (vI (nx (A 18) (F 5) (a59)))], [vI 61, vI (nx (A 18) (F 5) (a59))], LAY (u (u (u A 54 (A 54)) 55 (A 55)) 53 (wr (A 53) x 3)) (u (u F 7 (F 7)) 6 a59), 0, 0)) hc44 3 rfl trivial ?_
          refine R_ic (t := 56) hc44 rfl rfl (fun (c11 : nx (A 18) (F 5) (a59) = 61) => ?_) (fun (c11 : ¬ (nx (A 18) (F 5) (a59) = 61)) => ?_)
          · refine R_s (P := (0 ≤ x ∧ x < ((A 54).length : Int)) ∧ inI (a59 + 1) ∧ True) (f' := (75, [some (vR 17), some (vR 47), some (vI x), some (vI (nx (A 18) (F 5) (a59)))], [vI 4, vR 17], LAY (u (u (u A 55 (A 55)) 53 (wr (A 53) x 3)) 54 (wr (A 54) x (nx (A 18) (F 5) (a59)))) (u (u F 7 (F 7)) 6 (a59 + 1)), 0, 0)) hc44 13 rfl ⟨⟨by omega, by omega⟩, ⟨by omega, by omega⟩, trivial⟩ ?_
            refine R_cv hc44 rfl rfl (l_numb (A := (u (u (u A 55 (A 55)) 53 (wr (A 53) x 3)) 54 (wr (A 54) x (nx (A 18) (F 5) (a59))))) (F := (u (u F 7 (F 7)) 6 (a59 + 1))) (LENS_u (LENS_u (LENS_u hL (by show (A 55).length = (A 55).length; omega)) (by show (wr (A 53) x 3).length = (A 53).length; simp only [wr_len])) (by show (wr (A 54) x (nx (A 18) (F 5) (a59))).length = (A 54).length; simp only [wr_len])) h5 ⟨by (show 0 ≤ a59 + 1); omega, by (have := nx_in (l := A 18) (n := F 5) (a := a59) (by omega)); (show a59 + 1 ≤ F 5); omega⟩ (kk := 4) (by decide) rfl) (fun r G9 hp9 => ?_)
            obtain ⟨b60, a60, v60, rfl, rfl, hb60, hw60, p60, q60, w60⟩ := hp9
            have p60 : 0 ≤ a60 := p60
            have q60 : a60 ≤ F 5 := q60
            refine R_s (f' := (78, [some (vR 17), some (vR 47), some (vI x), some (vI (nx (A 18) (F 5) (a59)))], [vI b60], LAY (u (u (u A 55 (A 55)) 53 (wr (A 53) x 3)) 54 (wr (A 54) x (nx (A 18) (F 5) (a59)))) (u (u F 6 a60) 7 v60), 0, 0)) hc44 0 rfl trivial ?_
            refine R_if (t := 83) hc44 rfl rfl (fun (c12 : ¬ b60 = 0) => ?_) (fun (c12 : ¬ (¬ b60 = 0)) => ?_)
            · refine R_s (P := (0 ≤ x ∧ x < ((A 55).length : Int)) ∧ True) (f' := (94, [some (vR 17), some (vR 47), some (vI x), some (vI (nx (A 18) (F 5) (a59)))], [vI 1], LAY (u (u (u A 53 (wr (A 53) x 3)) 54 (wr (A 54) x (nx (A 18) (F 5) (a59)))) 55 (wr (A 55) x v60)) (u (u F 6 a60) 7 v60), 0, 0)) hc44 7 rfl ⟨⟨by omega, by omega⟩, trivial⟩ ?_
              refine R_retz hc44 rfl rfl (Or.inr rfl) ⟨1, wr (A 53) x 3, wr (A 54) x (nx (A 18) (F 5) (a59)), wr (A 55) x v60, a60, v60, rfl, rfl, (by (try simp only [wr_len]); omega), (by (try simp only [wr_len]); omega), (by (try simp only [wr_len]); omega), by decide, by omega, by first | omega | (have := nx_in (l := A 18) (n := F 5) (a := F 6) (by omega); omega), fun q hq => by rw [rd_wr_n (by omega) (by omega) (by omega)], fun q hq => by rw [rd_wr_n (by omega) (by omega) (by omega)], fun q hq => by rw [rd_wr_n (by omega) (by omega) (by omega)], ?_⟩
              have ehw49 : b49 = 1 := by omega
              rw [ehw49] at hw49
              have hw49n : wD (A 18) (F 5) IFF (0, F 6) = (0, a49) := hw49
              have ehw59 : b59 = 1 := by omega
              rw [ehw59] at hw59
              have hw59n : wD (A 18) (F 5) ALIVE (0, a49) = (0, a59) := hw59
              have ehw60 : b60 = 1 := by omega
              rw [ehw60] at hw60
              have hw60n : dG (A 18) (F 5) 4 (0, a59 + 1) = ((0, a60), v60) := hw60
              have e2 : t2 (A 18) (F 5) (0, F 6) = ((0, a59), 2) := by
                unfold t2
                rw [hw49n]
                rw [if_pos rfl]
                unfold fD
                (try dsimp only)
                rw [if_pos (by omega), hw59n]
              have e3 : t3 (A 18) (F 5) (0, F 6) = (0, a59 + 1) := by
                unfold t3
                rw [e2]
                rw [if_pos ⟨rfl, by (try dsimp only); omega⟩]
              have e4 : dG (A 18) (F 5) 4 (t3 (A 18) (F 5) (0, F 6)) = ((0, a60), v60) := by
                rw [e3]
                exact hw60n
              have eS : tS (A 18) (F 5) (0, F 6) = (0, a60) := by
                unfold tS
                rw [if_pos ⟨rfl, by (try dsimp only); omega⟩, e4]
              have eF : tF (A 18) (F 5) (0, F 6) = 2 := by
                unfold tF
                rw [if_pos ⟨rfl, by (try dsimp only); omega⟩, e2]
              have eG : tG (A 18) (F 5) (0, F 6) = nx (A 18) (F 5) (a59) := by
                unfold tG
                rw [e2]
              have eH : tH (A 18) (F 5) (0, F 6) = v60 := by
                unfold tH
                rw [e4]
              refine ⟨eS, fun _ => ⟨?_, .inr ⟨?_, ?_⟩⟩⟩
              · rw [eF, ← ex, rd_wr_s (by omega) (by (try simp only [wr_len]); omega)]
                decide
              · rw [eG, ← ex, rd_wr_s (by omega) (by (try simp only [wr_len]); omega)]
              · rw [eH, ← ex, rd_wr_s (by omega) (by (try simp only [wr_len]); omega)]
            · refine R_s (P := True) (f' := (82, [some (vR 17), some (vR 47), some (vI x), some (vI (nx (A 18) (F 5) (a59)))], [vI 0], LAY (u (u (u A 55 (A 55)) 53 (wr (A 53) x 3)) 54 (wr (A 54) x (nx (A 18) (F 5) (a59)))) (u (u F 6 a60) 7 v60), 0, 0)) hc44 1 rfl trivial ?_
              refine R_retz hc44 rfl rfl (Or.inl rfl) ⟨0, wr (A 53) x 3, wr (A 54) x (nx (A 18) (F 5) (a59)), A 55, a60, v60, rfl, rfl, (by (try simp only [wr_len]); omega), (by (try simp only [wr_len]); omega), (by (try simp only [wr_len]); omega), by decide, by omega, by first | omega | (have := nx_in (l := A 18) (n := F 5) (a := F 6) (by omega); omega), fun q hq => by rw [rd_wr_n (by omega) (by omega) (by omega)], fun q hq => by rw [rd_wr_n (by omega) (by omega) (by omega)], fun _ _ => rfl, ?_, fun z => absurd z (by decide)⟩
              have ehw49 : b49 = 1 := by omega
              rw [ehw49] at hw49
              have hw49n : wD (A 18) (F 5) IFF (0, F 6) = (0, a49) := hw49
              have ehw59 : b59 = 1 := by omega
              rw [ehw59] at hw59
              have hw59n : wD (A 18) (F 5) ALIVE (0, a49) = (0, a59) := hw59
              have ehw60 : b60 = 0 := by omega
              rw [ehw60] at hw60
              have hw60n : dG (A 18) (F 5) 4 (0, a59 + 1) = ((1, a60), v60) := hw60
              have e2 : t2 (A 18) (F 5) (0, F 6) = ((0, a59), 2) := by
                unfold t2
                rw [hw49n]
                rw [if_pos rfl]
                unfold fD
                (try dsimp only)
                rw [if_pos (by omega), hw59n]
              have e3 : t3 (A 18) (F 5) (0, F 6) = (0, a59 + 1) := by
                unfold t3
                rw [e2]
                rw [if_pos ⟨rfl, by (try dsimp only); omega⟩]
              have e4 : dG (A 18) (F 5) 4 (t3 (A 18) (F 5) (0, F 6)) = ((1, a60), v60) := by
                rw [e3]
                exact hw60n
              have eS : tS (A 18) (F 5) (0, F 6) = (1, a60) := by
                unfold tS
                rw [if_pos ⟨rfl, by (try dsimp only); omega⟩, e4]
              exact eS
          · refine R_s (P := True) (f' := (45, [some (vR 17), some (vR 47), some (vI x), some (vI (nx (A 18) (F 5) (a59)))], [vI 60, vI (nx (A 18) (F 5) (a59))], LAY (u (u (u A 54 (A 54)) 55 (A 55)) 53 (wr (A 53) x 3)) (u (u F 7 (F 7)) 6 a59), 0, 0)) hc44 2 rfl trivial ?_
            refine R_ic (t := 56) hc44 rfl rfl (fun (c13 : nx (A 18) (F 5) (a59) = 60) => ?_) (fun (c13 : ¬ (nx (A 18) (F 5) (a59) = 60)) => ?_)
            · refine R_s (P := (0 ≤ x ∧ x < ((A 54).length : Int)) ∧ inI (a59 + 1) ∧ True) (f' := (75, [some (vR 17), some (vR 47), some (vI x), some (vI (nx (A 18) (F 5) (a59)))], [vI 4, vR 17], LAY (u (u (u A 55 (A 55)) 53 (wr (A 53) x 3)) 54 (wr (A 54) x (nx (A 18) (F 5) (a59)))) (u (u F 7 (F 7)) 6 (a59 + 1)), 0, 0)) hc44 13 rfl ⟨⟨by omega, by omega⟩, ⟨by omega, by omega⟩, trivial⟩ ?_
              refine R_cv hc44 rfl rfl (l_numb (A := (u (u (u A 55 (A 55)) 53 (wr (A 53) x 3)) 54 (wr (A 54) x (nx (A 18) (F 5) (a59))))) (F := (u (u F 7 (F 7)) 6 (a59 + 1))) (LENS_u (LENS_u (LENS_u hL (by show (A 55).length = (A 55).length; omega)) (by show (wr (A 53) x 3).length = (A 53).length; simp only [wr_len])) (by show (wr (A 54) x (nx (A 18) (F 5) (a59))).length = (A 54).length; simp only [wr_len])) h5 ⟨by (show 0 ≤ a59 + 1); omega, by (have := nx_in (l := A 18) (n := F 5) (a := a59) (by omega)); (show a59 + 1 ≤ F 5); omega⟩ (kk := 4) (by decide) rfl) (fun r G9 hp9 => ?_)
              obtain ⟨b61, a61, v61, rfl, rfl, hb61, hw61, p61, q61, w61⟩ := hp9
              have p61 : 0 ≤ a61 := p61
              have q61 : a61 ≤ F 5 := q61
              refine R_s (f' := (78, [some (vR 17), some (vR 47), some (vI x), some (vI (nx (A 18) (F 5) (a59)))], [vI b61], LAY (u (u (u A 55 (A 55)) 53 (wr (A 53) x 3)) 54 (wr (A 54) x (nx (A 18) (F 5) (a59)))) (u (u F 6 a61) 7 v61), 0, 0)) hc44 0 rfl trivial ?_
              refine R_if (t := 83) hc44 rfl rfl (fun (c14 : ¬ b61 = 0) => ?_) (fun (c14 : ¬ (¬ b61 = 0)) => ?_)
              · refine R_s (P := (0 ≤ x ∧ x < ((A 55).length : Int)) ∧ True) (f' := (94, [some (vR 17), some (vR 47), some (vI x), some (vI (nx (A 18) (F 5) (a59)))], [vI 1], LAY (u (u (u A 53 (wr (A 53) x 3)) 54 (wr (A 54) x (nx (A 18) (F 5) (a59)))) 55 (wr (A 55) x v61)) (u (u F 6 a61) 7 v61), 0, 0)) hc44 7 rfl ⟨⟨by omega, by omega⟩, trivial⟩ ?_
                refine R_retz hc44 rfl rfl (Or.inr rfl) ⟨1, wr (A 53) x 3, wr (A 54) x (nx (A 18) (F 5) (a59)), wr (A 55) x v61, a61, v61, rfl, rfl, (by (try simp only [wr_len]); omega), (by (try simp only [wr_len]); omega), (by (try simp only [wr_len]); omega), by decide, by omega, by first | omega | (have := nx_in (l := A 18) (n := F 5) (a := F 6) (by omega); omega), fun q hq => by rw [rd_wr_n (by omega) (by omega) (by omega)], fun q hq => by rw [rd_wr_n (by omega) (by omega) (by omega)], fun q hq => by rw [rd_wr_n (by omega) (by omega) (by omega)], ?_⟩
                have ehw49 : b49 = 1 := by omega
                rw [ehw49] at hw49
                have hw49n : wD (A 18) (F 5) IFF (0, F 6) = (0, a49) := hw49
                have ehw59 : b59 = 1 := by omega
                rw [ehw59] at hw59
                have hw59n : wD (A 18) (F 5) ALIVE (0, a49) = (0, a59) := hw59
                have ehw61 : b61 = 1 := by omega
                rw [ehw61] at hw61
                have hw61n : dG (A 18) (F 5) 4 (0, a59 + 1) = ((0, a61), v61) := hw61
                have e2 : t2 (A 18) (F 5) (0, F 6) = ((0, a59), 2) := by
                  unfold t2
                  rw [hw49n]
                  rw [if_pos rfl]
                  unfold fD
                  (try dsimp only)
                  rw [if_pos (by omega), hw59n]
                have e3 : t3 (A 18) (F 5) (0, F 6) = (0, a59 + 1) := by
                  unfold t3
                  rw [e2]
                  rw [if_pos ⟨rfl, by (try dsimp only); omega⟩]
                have e4 : dG (A 18) (F 5) 4 (t3 (A 18) (F 5) (0, F 6)) = ((0, a61), v61) := by
                  rw [e3]
                  exact hw61n
                have eS : tS (A 18) (F 5) (0, F 6) = (0, a61) := by
                  unfold tS
                  rw [if_pos ⟨rfl, by (try dsimp only); omega⟩, e4]
                have eF : tF (A 18) (F 5) (0, F 6) = 2 := by
                  unfold tF
                  rw [if_pos ⟨rfl, by (try dsimp only); omega⟩, e2]
                have eG : tG (A 18) (F 5) (0, F 6) = nx (A 18) (F 5) (a59) := by
                  unfold tG
                  rw [e2]
                have eH : tH (A 18) (F 5) (0, F 6) = v61 := by
                  unfold tH
                  rw [e4]
                refine ⟨eS, fun _ => ⟨?_, .inr ⟨?_, ?_⟩⟩⟩
                · rw [eF, ← ex, rd_wr_s (by omega) (by (try simp only [wr_len]); omega)]
                  decide
                · rw [eG, ← ex, rd_wr_s (by omega) (by (try simp only [wr_len]); omega)]
                · rw [eH, ← ex, rd_wr_s (by omega) (by (try simp only [wr_len]); omega)]
              · refine R_s (P := True) (f' := (82, [some (vR 17), some (vR 47), some (vI x), some (vI (nx (A 18) (F 5) (a59)))], [vI 0], LAY (u (u (u A 55 (A 55)) 53 (wr (A 53) x 3)) 54 (wr (A 54) x (nx (A 18) (F 5) (a59)))) (u (u F 6 a61) 7 v61), 0, 0)) hc44 1 rfl trivial ?_
                refine R_retz hc44 rfl rfl (Or.inl rfl) ⟨0, wr (A 53) x 3, wr (A 54) x (nx (A 18) (F 5) (a59)), A 55, a61, v61, rfl, rfl, (by (try simp only [wr_len]); omega), (by (try simp only [wr_len]); omega), (by (try simp only [wr_len]); omega), by decide, by omega, by first | omega | (have := nx_in (l := A 18) (n := F 5) (a := F 6) (by omega); omega), fun q hq => by rw [rd_wr_n (by omega) (by omega) (by omega)], fun q hq => by rw [rd_wr_n (by omega) (by omega) (by omega)], fun _ _ => rfl, ?_, fun z => absurd z (by decide)⟩
                have ehw49 : b49 = 1 := by omega
                rw [ehw49] at hw49
                have hw49n : wD (A 18) (F 5) IFF (0, F 6) = (0, a49) := hw49
                have ehw59 : b59 = 1 := by omega
                rw [ehw59] at hw59
                have hw59n : wD (A 18) (F 5) ALIVE (0, a49) = (0, a59) := hw59
                have ehw61 : b61 = 0 := by omega
                rw [ehw61] at hw61
                have hw61n : dG (A 18) (F 5) 4 (0, a59 + 1) = ((1, a61), v61) := hw61
                have e2 : t2 (A 18) (F 5) (0, F 6) = ((0, a59), 2) := by
                  unfold t2
                  rw [hw49n]
                  rw [if_pos rfl]
                  unfold fD
                  (try dsimp only)
                  rw [if_pos (by omega), hw59n]
                have e3 : t3 (A 18) (F 5) (0, F 6) = (0, a59 + 1) := by
                  unfold t3
                  rw [e2]
                  rw [if_pos ⟨rfl, by (try dsimp only); omega⟩]
                have e4 : dG (A 18) (F 5) 4 (t3 (A 18) (F 5) (0, F 6)) = ((1, a61), v61) := by
                  rw [e3]
                  exact hw61n
                have eS : tS (A 18) (F 5) (0, F 6) = (1, a61) := by
                  unfold tS
                  rw [if_pos ⟨rfl, by (try dsimp only); omega⟩, e4]
                exact eS
            · refine R_s (P := True) (f' := (51, [some (vR 17), some (vR 47), some (vI x), some (vI (nx (A 18) (F 5) (a59)))], [vI 62, vI (nx (A 18) (F 5) (a59))], LAY (u (u (u A 54 (A 54)) 55 (A 55)) 53 (wr (A 53) x 3)) (u (u F 7 (F 7)) 6 a59), 0, 0)) hc44 2 rfl trivial ?_
              refine R_ic (t := 56) hc44 rfl rfl (fun (c15 : nx (A 18) (F 5) (a59) = 62) => ?_) (fun (c15 : ¬ (nx (A 18) (F 5) (a59) = 62)) => ?_)
              · refine R_s (P := (0 ≤ x ∧ x < ((A 54).length : Int)) ∧ inI (a59 + 1) ∧ True) (f' := (75, [some (vR 17), some (vR 47), some (vI x), some (vI (nx (A 18) (F 5) (a59)))], [vI 4, vR 17], LAY (u (u (u A 55 (A 55)) 53 (wr (A 53) x 3)) 54 (wr (A 54) x (nx (A 18) (F 5) (a59)))) (u (u F 7 (F 7)) 6 (a59 + 1)), 0, 0)) hc44 13 rfl ⟨⟨by omega, by omega⟩, ⟨by omega, by omega⟩, trivial⟩ ?_
                refine R_cv hc44 rfl rfl (l_numb (A := (u (u (u A 55 (A 55)) 53 (wr (A 53) x 3)) 54 (wr (A 54) x (nx (A 18) (F 5) (a59))))) (F := (u (u F 7 (F 7)) 6 (a59 + 1))) (LENS_u (LENS_u (LENS_u hL (by show (A 55).length = (A 55).length; omega)) (by show (wr (A 53) x 3).length = (A 53).length; simp only [wr_len])) (by show (wr (A 54) x (nx (A 18) (F 5) (a59))).length = (A 54).length; simp only [wr_len])) h5 ⟨by (show 0 ≤ a59 + 1); omega, by (have := nx_in (l := A 18) (n := F 5) (a := a59) (by omega)); (show a59 + 1 ≤ F 5); omega⟩ (kk := 4) (by decide) rfl) (fun r G9 hp9 => ?_)
                obtain ⟨b62, a62, v62, rfl, rfl, hb62, hw62, p62, q62, w62⟩ := hp9
                have p62 : 0 ≤ a62 := p62
                have q62 : a62 ≤ F 5 := q62
                refine R_s (f' := (78, [some (vR 17), some (vR 47), some (vI x), some (vI (nx (A 18) (F 5) (a59)))], [vI b62], LAY (u (u (u A 55 (A 55)) 53 (wr (A 53) x 3)) 54 (wr (A 54) x (nx (A 18) (F 5) (a59)))) (u (u F 6 a62) 7 v62), 0, 0)) hc44 0 rfl trivial ?_
                refine R_if (t := 83) hc44 rfl rfl (fun (c16 : ¬ b62 = 0) => ?_) (fun (c16 : ¬ (¬ b62 = 0)) => ?_)
                · refine R_s (P := (0 ≤ x ∧ x < ((A 55).length : Int)) ∧ True) (f' := (94, [some (vR 17), some (vR 47), some (vI x), some (vI (nx (A 18) (F 5) (a59)))], [vI 1], LAY (u (u (u A 53 (wr (A 53) x 3)) 54 (wr (A 54) x (nx (A 18) (F 5) (a59)))) 55 (wr (A 55) x v62)) (u (u F 6 a62) 7 v62), 0, 0)) hc44 7 rfl ⟨⟨by omega, by omega⟩, trivial⟩ ?_
                  refine R_retz hc44 rfl rfl (Or.inr rfl) ⟨1, wr (A 53) x 3, wr (A 54) x (nx (A 18) (F 5) (a59)), wr (A 55) x v62, a62, v62, rfl, rfl, (by (try simp only [wr_len]); omega), (by (try simp only [wr_len]); omega), (by (try simp only [wr_len]); omega), by decide, by omega, by first | omega | (have := nx_in (l := A 18) (n := F 5) (a := F 6) (by omega); omega), fun q hq => by rw [rd_wr_n (by omega) (by omega) (by omega)], fun q hq => by rw [rd_wr_n (by omega) (by omega) (by omega)], fun q hq => by rw [rd_wr_n (by omega) (by omega) (by omega)], ?_⟩
                  have ehw49 : b49 = 1 := by omega
                  rw [ehw49] at hw49
                  have hw49n : wD (A 18) (F 5) IFF (0, F 6) = (0, a49) := hw49
                  have ehw59 : b59 = 1 := by omega
                  rw [ehw59] at hw59
                  have hw59n : wD (A 18) (F 5) ALIVE (0, a49) = (0, a59) := hw59
                  have ehw62 : b62 = 1 := by omega
                  rw [ehw62] at hw62
                  have hw62n : dG (A 18) (F 5) 4 (0, a59 + 1) = ((0, a62), v62) := hw62
                  have e2 : t2 (A 18) (F 5) (0, F 6) = ((0, a59), 2) := by
                    unfold t2
                    rw [hw49n]
                    rw [if_pos rfl]
                    unfold fD
                    (try dsimp only)
                    rw [if_pos (by omega), hw59n]
                  have e3 : t3 (A 18) (F 5) (0, F 6) = (0, a59 + 1) := by
                    unfold t3
                    rw [e2]
                    rw [if_pos ⟨rfl, by (try dsimp only); omega⟩]
                  have e4 : dG (A 18) (F 5) 4 (t3 (A 18) (F 5) (0, F 6)) = ((0, a62), v62) := by
                    rw [e3]
                    exact hw62n
                  have eS : tS (A 18) (F 5) (0, F 6) = (0, a62) := by
                    unfold tS
                    rw [if_pos ⟨rfl, by (try dsimp only); omega⟩, e4]
                  have eF : tF (A 18) (F 5) (0, F 6) = 2 := by
                    unfold tF
                    rw [if_pos ⟨rfl, by (try dsimp only); omega⟩, e2]
                  have eG : tG (A 18) (F 5) (0, F 6) = nx (A 18) (F 5) (a59) := by
                    unfold tG
                    rw [e2]
                  have eH : tH (A 18) (F 5) (0, F 6) = v62 := by
                    unfold tH
                    rw [e4]
                  refine ⟨eS, fun _ => ⟨?_, .inr ⟨?_, ?_⟩⟩⟩
                  · rw [eF, ← ex, rd_wr_s (by omega) (by (try simp only [wr_len]); omega)]
                    decide
                  · rw [eG, ← ex, rd_wr_s (by omega) (by (try simp only [wr_len]); omega)]
                  · rw [eH, ← ex, rd_wr_s (by omega) (by (try simp only [wr_len]); omega)]
                · refine R_s (P := True) (f' := (82, [some (vR 17), some (vR 47), some (vI x), some (vI (nx (A 18) (F 5) (a59)))], [vI 0], LAY (u (u (u A 55 (A 55)) 53 (wr (A 53) x 3)) 54 (wr (A 54) x (nx (A 18) (F 5) (a59)))) (u (u F 6 a62) 7 v62), 0, 0)) hc44 1 rfl trivial ?_
                  refine R_retz hc44 rfl rfl (Or.inl rfl) ⟨0, wr (A 53) x 3, wr (A 54) x (nx (A 18) (F 5) (a59)), A 55, a62, v62, rfl, rfl, (by (try simp only [wr_len]); omega), (by (try simp only [wr_len]); omega), (by (try simp only [wr_len]); omega), by decide, by omega, by first | omega | (have := nx_in (l := A 18) (n := F 5) (a := F 6) (by omega); omega), fun q hq => by rw [rd_wr_n (by omega) (by omega) (by omega)], fun q hq => by rw [rd_wr_n (by omega) (by omega) (by omega)], fun _ _ => rfl, ?_, fun z => absurd z (by decide)⟩
                  have ehw49 : b49 = 1 := by omega
                  rw [ehw49] at hw49
                  have hw49n : wD (A 18) (F 5) IFF (0, F 6) = (0, a49) := hw49
                  have ehw59 : b59 = 1 := by omega
                  rw [ehw59] at hw59
                  have hw59n : wD (A 18) (F 5) ALIVE (0, a49) = (0, a59) := hw59
                  have ehw62 : b62 = 0 := by omega
                  rw [ehw62] at hw62
                  have hw62n : dG (A 18) (F 5) 4 (0, a59 + 1) = ((1, a62), v62) := hw62
                  have e2 : t2 (A 18) (F 5) (0, F 6) = ((0, a59), 2) := by
                    unfold t2
                    rw [hw49n]
                    rw [if_pos rfl]
                    unfold fD
                    (try dsimp only)
                    rw [if_pos (by omega), hw59n]
                  have e3 : t3 (A 18) (F 5) (0, F 6) = (0, a59 + 1) := by
                    unfold t3
                    rw [e2]
                    rw [if_pos ⟨rfl, by (try dsimp only); omega⟩]
                  have e4 : dG (A 18) (F 5) 4 (t3 (A 18) (F 5) (0, F 6)) = ((1, a62), v62) := by
                    rw [e3]
                    exact hw62n
                  have eS : tS (A 18) (F 5) (0, F 6) = (1, a62) := by
                    unfold tS
                    rw [if_pos ⟨rfl, by (try dsimp only); omega⟩, e4]
                  exact eS
              · refine R_s (P := True) (f' := (55, [some (vR 17), some (vR 47), some (vI x), some (vI (nx (A 18) (F 5) (a59)))], [vI 0], LAY (u (u (u A 54 (A 54)) 55 (A 55)) 53 (wr (A 53) x 3)) (u (u F 7 (F 7)) 6 a59), 0, 0)) hc44 1 rfl trivial ?_
                refine R_retz hc44 rfl rfl (Or.inl rfl) ⟨0, wr (A 53) x 3, A 54, A 55, a59, F 7, rfl, rfl, (by (try simp only [wr_len]); omega), (by (try simp only [wr_len]); omega), (by (try simp only [wr_len]); omega), by decide, by omega, by first | omega | (have := nx_in (l := A 18) (n := F 5) (a := F 6) (by omega); omega), fun q hq => by rw [rd_wr_n (by omega) (by omega) (by omega)], fun _ _ => rfl, fun _ _ => rfl, ?_, fun z => absurd z (by decide)⟩
                have ehw49 : b49 = 1 := by omega
                rw [ehw49] at hw49
                have hw49n : wD (A 18) (F 5) IFF (0, F 6) = (0, a49) := hw49
                have ehw59 : b59 = 1 := by omega
                rw [ehw59] at hw59
                have hw59n : wD (A 18) (F 5) ALIVE (0, a49) = (0, a59) := hw59
                have e2 : t2 (A 18) (F 5) (0, F 6) = ((0, a59), 2) := by
                  unfold t2
                  rw [hw49n]
                  rw [if_pos rfl]
                  unfold fD
                  (try dsimp only)
                  rw [if_pos (by omega), hw59n]
                have e3 : t3 (A 18) (F 5) (0, F 6) = (1, a59) := by
                  unfold t3
                  rw [e2]
                  rw [if_neg (fun z => by have := z.2; (try dsimp only at this); omega)]
                have e4 : dG (A 18) (F 5) 4 (t3 (A 18) (F 5) (0, F 6)) = ((1, a59), 0) := by rw [e3, dG_f]
                have eS : tS (A 18) (F 5) (0, F 6) = (1, a59) := by
                  unfold tS
                  rw [if_pos ⟨rfl, by (try dsimp only); omega⟩, e4]
                exact eS
        · refine R_s (P := True) (f' := (30, [some (vR 17), some (vR 47), some (vI x), none], [vI 0], LAY (u (u (u A 54 (A 54)) 55 (A 55)) 53 (wr (A 53) x 3)) (u (u F 7 (F 7)) 6 a59), 0, 0)) hc44 1 rfl trivial ?_
          refine R_retz hc44 rfl rfl (Or.inl rfl) ⟨0, wr (A 53) x 3, A 54, A 55, a59, F 7, rfl, rfl, (by (try simp only [wr_len]); omega), (by (try simp only [wr_len]); omega), (by (try simp only [wr_len]); omega), by decide, by omega, by first | omega | (have := nx_in (l := A 18) (n := F 5) (a := F 6) (by omega); omega), fun q hq => by rw [rd_wr_n (by omega) (by omega) (by omega)], fun _ _ => rfl, fun _ _ => rfl, ?_, fun z => absurd z (by decide)⟩
          have ehw49 : b49 = 1 := by omega
          rw [ehw49] at hw49
          have hw49n : wD (A 18) (F 5) IFF (0, F 6) = (0, a49) := hw49
          have ehw59 : b59 = 0 := by omega
          rw [ehw59] at hw59
          have hw59n : wD (A 18) (F 5) ALIVE (0, a49) = (1, a59) := hw59
          have e2 : t2 (A 18) (F 5) (0, F 6) = ((1, a59), 2) := by
            unfold t2
            rw [hw49n]
            rw [if_pos rfl]
            unfold fD
            (try dsimp only)
            rw [if_pos (by omega), hw59n]
          have e3 : t3 (A 18) (F 5) (0, F 6) = (1, a59) := by
            unfold t3
            rw [e2]
            rw [if_neg (fun z => absurd (show (1 : Int) = 0 from z.1) (by decide))]
          have e4 : dG (A 18) (F 5) 4 (t3 (A 18) (F 5) (0, F 6)) = ((1, a59), 0) := by rw [e3, dG_f]
          have eS : tS (A 18) (F 5) (0, F 6) = (1, a59) := by
            unfold tS
            rw [if_pos ⟨rfl, by (try dsimp only); omega⟩, e4]
          exact eS
  · refine R_s (P := True) (f' := (10, [some (vR 17), some (vR 47), some (vI x), none], [vI 1], LAY (u (u (u A 53 (A 53)) 54 (A 54)) 55 (A 55)) (u (u F 6 (F 6)) 7 (F 7)), 0, 0)) hc44 1 rfl trivial ?_
    refine R_retz hc44 rfl rfl (Or.inr rfl) ⟨1, A 53, A 54, A 55, F 6, F 7, rfl, rfl, (by (try simp only [wr_len]); omega), (by (try simp only [wr_len]); omega), (by (try simp only [wr_len]); omega), by decide, by omega, by first | omega | (have := nx_in (l := A 18) (n := F 5) (a := F 6) (by omega); omega), fun _ _ => rfl, fun _ _ => rfl, fun _ _ => rfl, ?_, fun _ => ⟨?_, .inl ?_⟩⟩
    · unfold tS
      rw [if_neg (fun z => by have := z.2; (try dsimp only at this); omega)]
      rfl
    all_goals have e9 : tF (A 18) (F 5) (0, F 6) = -1 := by (unfold tF; rw [if_neg (fun z => by have := z.2; (try dsimp only at this); omega)])
    · rw [e9]; omega
    · exact e9

theorem l_rrest3 {A : Nat → List Int} {F : Nat → Int} (hL : LENS A) (h5 : 0 ≤ F 5 ∧ F 5 ≤ 120) (h6 : 0 ≤ F 6 ∧ F 6 ≤ F 5) {x : Int} {i : Nat} (ex : x = (i : Int)) (hi : i < 6) : R 43 (0, L0 43 [vR 17, vR 47, vI x], [], LAY A F, 0, 0) (fun r G => ∃ (c : Int) (q0 q3 : List Int) (a v : Int), r = some (vI c) ∧ G = LAY (u (u A 48 q0) 51 q3) (u (u F 6 a) 7 v) ∧ q0.length = 6 ∧ q3.length = 6 ∧ (c = 0 ∨ c = 1) ∧ 0 ≤ a ∧ a ≤ F 5 ∧ (∀ q : Nat, q ≠ i → rd q0 q = rd (A 48) q) ∧ (∀ q : Nat, q ≠ i → rd q3 q = rd (A 51) q) ∧ (hS (A 18) (F 5) (wD (A 18) (F 5) REST (0, F 6))).1 = (1 - c, a) ∧ rd q0 i = 3 ∧ (c = 1 → rd q3 i = (hS (A 18) (F 5) (wD (A 18) (F 5) REST (0, F 6))).2)) := by
  have d0 : (A 48).length = 6 := hL 48 (by decide)
  have d1 : (A 49).length = 6 := hL 49 (by decide)
  have d2 : (A 50).length = 6 := hL 50 (by decide)
  have d3 : (A 51).length = 6 := hL 51 (by decide)
  have d4 : (A 52).length = 6 := hL 52 (by decide)
  have d5 : (A 53).length = 6 := hL 53 (by decide)
  have d6 : (A 54).length = 6 := hL 54 (by decide)
  have d7 : (A 55).length = 6 := hL 55 (by decide)
  refine R_s (P := True) (f' := (0, [some (vR 17), some (vR 47), some (vI x)], [], LAY (u (u A 48 (A 48)) 51 (A 51)) (u (u F 6 (F 6)) 7 (F 7)), 0, 0)) hc43 0 rfl trivial ?_
  refine R_s (P := (0 ≤ x ∧ x < ((A 48).length : Int)) ∧ True) (f' := (10, [some (vR 17), some (vR 47), some (vI x)], [vS 12, vR 17], LAY (u (u A 51 (A 51)) 48 (wr (A 48) x 3)) (u (u F 6 (F 6)) 7 (F 7)), 0, 0)) hc43 7 rfl ⟨⟨by omega, by omega⟩, trivial⟩ ?_
  refine R_cv hc43 rfl rfl (l_word12 (A := (u (u A 51 (A 51)) 48 (wr (A 48) x 3))) (F := (u (u F 6 (F 6)) 7 (F 7))) (LENS_u (LENS_u hL (by show (A 51).length = (A 51).length; omega)) (by show (wr (A 48) x 3).length = (A 48).length; simp only [wr_len])) h5 ⟨by (show 0 ≤ F 6); omega, by (show F 6 ≤ F 5); omega⟩) (fun r G9 hp9 => ?_)
  obtain ⟨b63, a63, rfl, rfl, hb63, hw63, p63, q63⟩ := hp9
  have p63 : 0 ≤ a63 := p63
  have q63 : a63 ≤ F 5 := q63
  refine R_s (f' := (13, [some (vR 17), some (vR 47), some (vI x)], [vI b63], LAY (u (u A 51 (A 51)) 48 (wr (A 48) x 3)) (u (u F 7 (F 7)) 6 a63), 0, 0)) hc43 0 rfl trivial ?_
  refine R_if (t := 29) hc43 rfl rfl (fun (c1 : b63 = 0) => ?_) (fun (c1 : ¬ (b63 = 0)) => ?_)
  · refine R_s (P := True) (f' := (30, [some (vR 17), some (vR 47), some (vI x)], [vI 0], LAY (u (u A 51 (A 51)) 48 (wr (A 48) x 3)) (u (u F 7 (F 7)) 6 a63), 0, 0)) hc43 1 rfl trivial ?_
    refine R_retz hc43 rfl rfl (Or.inl rfl) ⟨0, wr (A 48) x 3, A 51, a63, F 7, rfl, rfl, (by (try simp only [wr_len]); omega), (by (try simp only [wr_len]); omega), by decide, by omega, by omega, fun q hq => by rw [rd_wr_n (by omega) (by omega) (by omega)], fun _ _ => rfl, ?_⟩
    have ehw63 : b63 = 0 := by omega
    rw [ehw63] at hw63
    have hw63n : wD (A 18) (F 5) REST (0, F 6) = (1, a63) := hw63
    have eS : hS (A 18) (F 5) (wD (A 18) (F 5) REST (0, F 6)) = ((1, a63), 0) := by rw [hw63n, hS_f]
    exact ⟨by rw [eS]; rfl, by rw [← ex]; exact rd_wr_s (by omega) (by omega), fun z => absurd z (by decide)⟩
  · refine R_s (P := True) (f' := (19, [some (vR 17), some (vR 47), some (vI x)], [vI x, vR 47, vR 17], LAY (u (u A 51 (A 51)) 48 (wr (A 48) x 3)) (u (u F 7 (F 7)) 6 a63), 0, 0)) hc43 3 rfl trivial ?_
    refine R_cv hc43 rfl rfl (l_rhouse3 (A := (u (u A 51 (A 51)) 48 (wr (A 48) x 3))) (F := (u (u F 7 (F 7)) 6 a63)) (LENS_u (LENS_u hL (by show (A 51).length = (A 51).length; omega)) (by show (wr (A 48) x 3).length = (A 48).length; simp only [wr_len])) h5 ⟨by (show 0 ≤ a63); omega, by (show a63 ≤ F 5); omega⟩ ex hi) (fun r G9 hp9 => ?_)
    obtain ⟨b64, h3_64, a64, v64, rfl, rfl, l64, hb64, p64, q64, kp64, h64, hw64, hv64⟩ := hp9
    have q64 : a64 ≤ F 5 := q64
    have kp64 : ∀ q : Nat, q ≠ i → rd h3_64 q = rd (A 51) q := kp64
    refine R_s (f' := (22, [some (vR 17), some (vR 47), some (vI x)], [vI b64], LAY (u (u A 48 (wr (A 48) x 3)) 51 h3_64) (u (u F 6 a64) 7 v64), 0, 0)) hc43 0 rfl trivial ?_
    refine R_if (t := 29) hc43 rfl rfl (fun (c2 : b64 = 0) => ?_) (fun (c2 : ¬ (b64 = 0)) => ?_)
    · refine R_s (P := True) (f' := (30, [some (vR 17), some (vR 47), some (vI x)], [vI 0], LAY (u (u A 48 (wr (A 48) x 3)) 51 h3_64) (u (u F 6 a64) 7 v64), 0, 0)) hc43 1 rfl trivial ?_
      refine R_retz hc43 rfl rfl (Or.inl rfl) ⟨0, wr (A 48) x 3, h3_64, a64, v64, rfl, rfl, (by (try simp only [wr_len]); omega), (by (try simp only [wr_len]); omega), by decide, by omega, by omega, fun q hq => by rw [rd_wr_n (by omega) (by omega) (by omega)], fun q hq => by rw [kp64 q hq], ?_⟩
      have ehw63 : b63 = 1 := by omega
      rw [ehw63] at hw63
      have hw63n : wD (A 18) (F 5) REST (0, F 6) = (0, a63) := hw63
      have ehw64 : b64 = 0 := by omega
      rw [ehw64] at hw64
      have hw64n : hS (A 18) (F 5) (0, a63) = ((1, a64), h64) := hw64
      have eS : hS (A 18) (F 5) (wD (A 18) (F 5) REST (0, F 6)) = ((1, a64), h64) := by rw [hw63n, hw64n]
      exact ⟨by rw [eS]; rfl, by rw [← ex]; exact rd_wr_s (by omega) (by omega), fun z => absurd z (by decide)⟩
    · refine R_s (P := True) (f' := (30, [some (vR 17), some (vR 47), some (vI x)], [vI 1], LAY (u (u A 48 (wr (A 48) x 3)) 51 h3_64) (u (u F 6 a64) 7 v64), 0, 0)) hc43 2 rfl trivial ?_
      refine R_retz hc43 rfl rfl (Or.inr rfl) ⟨1, wr (A 48) x 3, h3_64, a64, v64, rfl, rfl, (by (try simp only [wr_len]); omega), (by (try simp only [wr_len]); omega), by decide, by omega, by omega, fun q hq => by rw [rd_wr_n (by omega) (by omega) (by omega)], fun q hq => by rw [kp64 q hq], ?_⟩
      have ehw63 : b63 = 1 := by omega
      rw [ehw63] at hw63
      have hw63n : wD (A 18) (F 5) REST (0, F 6) = (0, a63) := hw63
      have ehw64 : b64 = 1 := by omega
      rw [ehw64] at hw64
      have hw64n : hS (A 18) (F 5) (0, a63) = ((0, a64), h64) := hw64
      have eS : hS (A 18) (F 5) (wD (A 18) (F 5) REST (0, F 6)) = ((0, a64), h64) := by rw [hw63n, hw64n]
      exact ⟨by rw [eS]; rfl, by rw [← ex]; exact rd_wr_s (by omega) (by omega), fun _ => by rw [eS]; exact hv64 (by omega)⟩

theorem l_rhouse4 {A : Nat → List Int} {F : Nat → Int} (hL : LENS A) (h5 : 0 ≤ F 5 ∧ F 5 ≤ 120) (h6 : 0 ≤ F 6 ∧ F 6 ≤ F 5) {x : Int} {i : Nat} (ex : x = (i : Int)) (hi : i < 6) : R 46 (0, L0 46 [vR 17, vR 56, vI x], [], LAY A F, 0, 0) (fun r G => ∃ (c : Int) (q3 : List Int) (a v : Int), r = some (vI c) ∧ G = LAY (u A 60 q3) (u (u F 6 a) 7 v) ∧ q3.length = 6 ∧ (c = 0 ∨ c = 1) ∧ 0 ≤ a ∧ a ≤ F 5 ∧ (∀ q : Nat, q ≠ i → rd q3 q = rd (A 60) q) ∧ ∃ h, hS (A 18) (F 5) (0, F 6) = ((1 - c, a), h) ∧ (c = 1 → rd q3 i = h)) := by
  have d0 : (A 57).length = 6 := hL 57 (by decide)
  have d1 : (A 58).length = 6 := hL 58 (by decide)
  have d2 : (A 59).length = 6 := hL 59 (by decide)
  have d3 : (A 60).length = 6 := hL 60 (by decide)
  have d4 : (A 61).length = 6 := hL 61 (by decide)
  have d5 : (A 62).length = 6 := hL 62 (by decide)
  have d6 : (A 63).length = 6 := hL 63 (by decide)
  have d7 : (A 64).length = 6 := hL 64 (by decide)
  refine R_s (P := True) (f' := (0, [some (vR 17), some (vR 56), some (vI x), none], [], LAY (u A 60 (A 60)) (u (u F 6 (F 6)) 7 (F 7)), 0, 0)) hc46 0 rfl trivial ?_
  refine R_s (P := True) (f' := (1, [some (vR 17), some (vR 56), some (vI x), none], [vR 17], LAY (u A 60 (A 60)) (u (u F 6 (F 6)) 7 (F 7)), 0, 0)) hc46 1 rfl trivial ?_
  refine R_cv hc46 rfl rfl (l_next (A := (u A 60 (A 60))) (F := (u (u F 6 (F 6)) 7 (F 7))) (LENS_u hL (by show (A 60).length = (A 60).length; omega)) h5 ⟨by (show 0 ≤ F 6); omega, by (show F 6 ≤ F 5); omega⟩) (fun r G9 hp9 => ?_)
  obtain ⟨e1, rfl⟩ := hp9
  have e2 : r = some (vI (nx (A 18) (F 5) (F 6))) := e1
  clear e1
  subst e2
  refine R_s (f' := (4, [some (vR 17), some (vR 56), some (vI x), none], [vI (nx (A 18) (F 5) (F 6))], LAY (u A 60 (A 60)) (u (u F 6 (F 6)) 7 (F 7)), 0, 0)) hc46 0 rfl trivial ?_
  refine R_s (P := True) (f' := (8, [some (vR 17), some (vR 56), some (vI x), some (vI (nx (A 18) (F 5) (F 6)))], [vI 97, vI (nx (A 18) (F 5) (F 6))], LAY (u A 60 (A 60)) (u (u F 6 (F 6)) 7 (F 7)), 0, 0)) hc46 3 rfl trivial ?_
  refine R_ic (t := 17) hc46 rfl rfl (fun (c1 : nx (A 18) (F 5) (F 6) < 97) => ?_) (fun (c1 : ¬ (nx (A 18) (F 5) (F 6) < 97)) => ?_)
  · refine R_s (P := True) (f' := (18, [some (vR 17), some (vR 56), some (vI x), some (vI (nx (A 18) (F 5) (F 6)))], [vI 0], LAY (u A 60 (A 60)) (u (u F 6 (F 6)) 7 (F 7)), 0, 0)) hc46 1 rfl trivial ?_
    refine R_retz hc46 rfl rfl (Or.inl rfl) ⟨0, A 60, F 6, F 7, rfl, rfl, (by (try simp only [wr_len]); omega), by decide, by omega, by omega, fun _ _ => rfl, 0, ?_, fun z => absurd z (by decide)⟩
    unfold hS
    (try dsimp only)
    rw [if_neg (fun z => by omega)]
    rfl
  · refine R_s (P := True) (f' := (14, [some (vR 17), some (vR 56), some (vI x), some (vI (nx (A 18) (F 5) (F 6)))], [vI 105, vI (nx (A 18) (F 5) (F 6))], LAY (u A 60 (A 60)) (u (u F 6 (F 6)) 7 (F 7)), 0, 0)) hc46 2 rfl trivial ?_
    refine R_ic (t := 19) hc46 rfl rfl (fun (c2 : nx (A 18) (F 5) (F 6) < 105) => ?_) (fun (c2 : ¬ (nx (A 18) (F 5) (F 6) < 105)) => ?_)
    · refine R_s (P := inI ((nx (A 18) (F 5) (F 6)) - 97) ∧ (0 ≤ x ∧ x < ((A 60).length : Int)) ∧ inI ((F 6) + 1) ∧ True) (f' := (40, [some (vR 17), some (vR 56), some (vI x), some (vI (nx (A 18) (F 5) (F 6)))], [vI 1], LAY (u A 60 (wr (A 60) x ((nx (A 18) (F 5) (F 6)) - 97))) (u (u F 7 (F 7)) 6 ((F 6) + 1)), 0, 0)) hc46 14 rfl ⟨⟨by omega, by omega⟩, ⟨by omega, by omega⟩, ⟨by omega, by omega⟩, trivial⟩ ?_
      refine R_retz hc46 rfl rfl (Or.inr rfl) ⟨1, wr (A 60) x ((nx (A 18) (F 5) (F 6)) - 97), (F 6) + 1, F 7, rfl, rfl, (by (try simp only [wr_len]); omega), by decide, by omega, by have := nx_in (l := A 18) (n := F 5) (a := F 6) (by omega); omega, fun q hq => by rw [rd_wr_n (by omega) (by omega) (by omega)], nx (A 18) (F 5) (F 6) - 97, ?_, fun _ => by rw [← ex]; exact rd_wr_s (by omega) (by omega)⟩
      unfold hS
      (try dsimp only)
      rw [if_pos ⟨rfl, by omega, by omega⟩]
      rfl
    · refine R_s (P := True) (f' := (18, [some (vR 17), some (vR 56), some (vI x), some (vI (nx (A 18) (F 5) (F 6)))], [vI 0], LAY (u A 60 (A 60)) (u (u F 6 (F 6)) 7 (F 7)), 0, 0)) hc46 1 rfl trivial ?_
      refine R_retz hc46 rfl rfl (Or.inl rfl) ⟨0, A 60, F 6, F 7, rfl, rfl, (by (try simp only [wr_len]); omega), by decide, by omega, by omega, fun _ _ => rfl, 0, ?_, fun z => absurd z (by decide)⟩
      unfold hS
      (try dsimp only)
      rw [if_neg (fun z => by omega)]
      rfl

theorem l_rtest4 {A : Nat → List Int} {F : Nat → Int} (hL : LENS A) (h5 : 0 ≤ F 5 ∧ F 5 ≤ 120) (h6 : 0 ≤ F 6 ∧ F 6 ≤ F 5) {x : Int} {i : Nat} (ex : x = (i : Int)) (hi : i < 6) (hf0 : rd (A 62) i = 0) : R 44 (0, L0 44 [vR 17, vR 56, vI x], [], LAY A F, 0, 0) (fun r G => ∃ (c : Int) (q5 q6 q7 : List Int) (a v : Int), r = some (vI c) ∧ G = LAY (u (u (u A 62 q5) 63 q6) 64 q7) (u (u F 6 a) 7 v) ∧ q5.length = 6 ∧ q6.length = 6 ∧ q7.length = 6 ∧ (c = 0 ∨ c = 1) ∧ 0 ≤ a ∧ a ≤ F 5 ∧ (∀ q : Nat, q ≠ i → rd q5 q = rd (A 62) q) ∧ (∀ q : Nat, q ≠ i → rd q6 q = rd (A 63) q) ∧ (∀ q : Nat, q ≠ i → rd q7 q = rd (A 64) q) ∧ tS (A 18) (F 5) (0, F 6) = (1 - c, a) ∧ (c = 1 → rd q5 i = tF (A 18) (F 5) (0, F 6) + 1 ∧ (tF (A 18) (F 5) (0, F 6) = -1 ∨ (rd q6 i = tG (A 18) (F 5) (0, F 6) ∧ rd q7 i = tH (A 18) (F 5) (0, F 6))))) := by
  have d0 : (A 57).length = 6 := hL 57 (by decide)
  have d1 : (A 58).length = 6 := hL 58 (by decide)
  have d2 : (A 59).length = 6 := hL 59 (by decide)
  have d3 : (A 60).length = 6 := hL 60 (by decide)
  have d4 : (A 61).length = 6 := hL 61 (by decide)
  have d5 : (A 62).length = 6 := hL 62 (by decide)
  have d6 : (A 63).length = 6 := hL 63 (by decide)
  have d7 : (A 64).length = 6 := hL 64 (by decide)
  refine R_s (P := True) (f' := (0, [some (vR 17), some (vR 56), some (vI x), none], [], LAY (u (u (u A 62 (A 62)) 63 (A 63)) 64 (A 64)) (u (u F 6 (F 6)) 7 (F 7)), 0, 0)) hc44 0 rfl trivial ?_
  refine R_s (P := True) (f' := (1, [some (vR 17), some (vR 56), some (vI x), none], [vR 17], LAY (u (u (u A 62 (A 62)) 63 (A 63)) 64 (A 64)) (u (u F 6 (F 6)) 7 (F 7)), 0, 0)) hc44 1 rfl trivial ?_
  refine R_cv hc44 rfl rfl (l_next (A := (u (u (u A 62 (A 62)) 63 (A 63)) 64 (A 64))) (F := (u (u F 6 (F 6)) 7 (F 7))) (LENS_u (LENS_u (LENS_u hL (by show (A 62).length = (A 62).length; omega)) (by show (A 63).length = (A 63).length; omega)) (by show (A 64).length = (A 64).length; omega)) h5 ⟨by (show 0 ≤ F 6); omega, by (show F 6 ≤ F 5); omega⟩) (fun r G9 hp9 => ?_)
  obtain ⟨e1, rfl⟩ := hp9
  have e2 : r = some (vI (nx (A 18) (F 5) (F 6))) := e1
  clear e1
  subst e2
  refine R_s (f' := (4, [some (vR 17), some (vR 56), some (vI x), none], [vI (nx (A 18) (F 5) (F 6))], LAY (u (u (u A 62 (A 62)) 63 (A 63)) 64 (A 64)) (u (u F 6 (F 6)) 7 (F 7)), 0, 0)) hc44 0 rfl trivial ?_
  refine R_s (P := True) (f' := (6, [some (vR 17), some (vR 56), some (vI x), none], [vI 32, vI (nx (A 18) (F 5) (F 6))], LAY (u (u (u A 62 (A 62)) 63 (A 63)) 64 (A 64)) (u (u F 6 (F 6)) 7 (F 7)), 0, 0)) hc44 1 rfl trivial ?_
  refine R_ic (t := 11) hc44 rfl rfl (fun (c1 : nx (A 18) (F 5) (F 6) = 32) => ?_) (fun (c1 : ¬ (nx (A 18) (F 5) (F 6) = 32)) => ?_)
  · refine R_s (P := True) (f' := (14, [some (vR 17), some (vR 56), some (vI x), none], [vS 2, vR 17], LAY (u (u (u A 62 (A 62)) 63 (A 63)) 64 (A 64)) (u (u F 6 (F 6)) 7 (F 7)), 0, 0)) hc44 2 rfl trivial ?_
    refine R_cv hc44 rfl rfl (l_word2 (A := (u (u (u A 62 (A 62)) 63 (A 63)) 64 (A 64))) (F := (u (u F 6 (F 6)) 7 (F 7))) (LENS_u (LENS_u (LENS_u hL (by show (A 62).length = (A 62).length; omega)) (by show (A 63).length = (A 63).length; omega)) (by show (A 64).length = (A 64).length; omega)) h5 ⟨by (show 0 ≤ F 6); omega, by (show F 6 ≤ F 5); omega⟩) (fun r G9 hp9 => ?_)
    obtain ⟨b65, a65, rfl, rfl, hb65, hw65, p65, q65⟩ := hp9
    have p65 : 0 ≤ a65 := p65
    have q65 : a65 ≤ F 5 := q65
    refine R_s (f' := (17, [some (vR 17), some (vR 56), some (vI x), none], [vI b65], LAY (u (u (u A 62 (A 62)) 63 (A 63)) 64 (A 64)) (u (u F 7 (F 7)) 6 a65), 0, 0)) hc44 0 rfl trivial ?_
    refine R_if (t := 29) hc44 rfl rfl (fun (c2 : b65 = 0) => ?_) (fun (c2 : ¬ (b65 = 0)) => ?_)
    · refine R_s (P := True) (f' := (30, [some (vR 17), some (vR 56), some (vI x), none], [vI 0], LAY (u (u (u A 62 (A 62)) 63 (A 63)) 64 (A 64)) (u (u F 7 (F 7)) 6 a65), 0, 0)) hc44 1 rfl trivial ?_
      refine R_retz hc44 rfl rfl (Or.inl rfl) ⟨0, A 62, A 63, A 64, a65, F 7, rfl, rfl, (by (try simp only [wr_len]); omega), (by (try simp only [wr_len]); omega), (by (try simp only [wr_len]); omega), by decide, by omega, by first | omega | (have := nx_in (l := A 18) (n := F 5) (a := F 6) (by omega); omega), fun _ _ => rfl, fun _ _ => rfl, fun _ _ => rfl, ?_, fun z => absurd z (by decide)⟩
      have ehw65 : b65 = 0 := by omega
      rw [ehw65] at hw65
      have hw65n : wD (A 18) (F 5) IFF (0, F 6) = (1, a65) := hw65
      have e2 : t2 (A 18) (F 5) (0, F 6) = ((1, a65), 0) := by
        unfold t2
        rw [hw65n]
        rw [if_neg (show ¬ (1 : Int) = 0 by decide)]
      have e3 : t3 (A 18) (F 5) (0, F 6) = (1, a65) := by
        unfold t3
        rw [e2]
        rw [if_neg (fun z => absurd (show (1 : Int) = 0 from z.1) (by decide))]
      have e4 : dG (A 18) (F 5) 4 (t3 (A 18) (F 5) (0, F 6)) = ((1, a65), 0) := by rw [e3, dG_f]
      have eS : tS (A 18) (F 5) (0, F 6) = (1, a65) := by
        unfold tS
        rw [if_pos ⟨rfl, by (try dsimp only); omega⟩, e4]
      exact eS
    · refine R_s (P := True) (f' := (23, [some (vR 17), some (vR 56), some (vI x), none], [vI x, vR 56, vR 17], LAY (u (u (u A 62 (A 62)) 63 (A 63)) 64 (A 64)) (u (u F 7 (F 7)) 6 a65), 0, 0)) hc44 3 rfl trivial ?_
      refine R_cv hc44 rfl rfl ?_ (fun r G h => h)
      refine R_s (P := True) (f' := (1, [some (vR 17), some (vR 56), some (vI x), none], [vR 17], LAY (u (u (u A 62 (A 62)) 63 (A 63)) 64 (A 64)) (u (u F 7 (F 7)) 6 a65), 0, 0)) hc45 1 rfl trivial ?_
      refine R_cv hc45 rfl rfl (l_next (A := (u (u (u A 62 (A 62)) 63 (A 63)) 64 (A 64))) (F := (u (u F 7 (F 7)) 6 a65)) (LENS_u (LENS_u (LENS_u hL (by show (A 62).length = (A 62).length; omega)) (by show (A 63).length = (A 63).length; omega)) (by show (A 64).length = (A 64).length; omega)) h5 ⟨by (show 0 ≤ a65); omega, by (show a65 ≤ F 5); omega⟩) (fun r G9 hp9 => ?_)
      obtain ⟨e1, rfl⟩ := hp9
      have e2 : r = some (vI (nx (A 18) (F 5) (a65))) := e1
      clear e1
      subst e2
      refine R_s (f' := (4, [some (vR 17), some (vR 56), some (vI x), none], [vI (nx (A 18) (F 5) (a65))], LAY (u (u (u A 62 (A 62)) 63 (A 63)) 64 (A 64)) (u (u F 7 (F 7)) 6 a65), 0, 0)) hc45 0 rfl trivial ?_
      refine R_s (P := True) (f' := (6, [some (vR 17), some (vR 56), some (vI x), none], [vI 97, vI (nx (A 18) (F 5) (a65))], LAY (u (u (u A 62 (A 62)) 63 (A 63)) 64 (A 64)) (u (u F 7 (F 7)) 6 a65), 0, 0)) hc45 1 rfl trivial ?_
      refine R_ic (t := 23) hc45 rfl rfl (fun (c3 : ¬ nx (A 18) (F 5) (a65) = 97) => ?_) (fun (c3 : ¬ (¬ nx (A 18) (F 5) (a65) = 97)) => ?_)
      · refine R_s (P := True) (f' := (26, [some (vR 17), some (vR 56), some (vI x), none], [vS 4, vR 17], LAY (u (u (u A 62 (A 62)) 63 (A 63)) 64 (A 64)) (u (u F 7 (F 7)) 6 a65), 0, 0)) hc45 2 rfl trivial ?_
        refine R_cv hc45 rfl rfl (l_word4 (A := (u (u (u A 62 (A 62)) 63 (A 63)) 64 (A 64))) (F := (u (u F 7 (F 7)) 6 a65)) (LENS_u (LENS_u (LENS_u hL (by show (A 62).length = (A 62).length; omega)) (by show (A 63).length = (A 63).length; omega)) (by show (A 64).length = (A 64).length; omega)) h5 ⟨by (show 0 ≤ a65); omega, by (show a65 ≤ F 5); omega⟩) (fun r G9 hp9 => ?_)
        obtain ⟨b66, a66, rfl, rfl, hb66, hw66, p66, q66⟩ := hp9
        have p66 : 0 ≤ a66 := p66
        have q66 : a66 ≤ F 5 := q66
        refine R_s (f' := (29, [some (vR 17), some (vR 56), some (vI x), none], [vI b66], LAY (u (u (u A 62 (A 62)) 63 (A 63)) 64 (A 64)) (u (u F 7 (F 7)) 6 a66), 0, 0)) hc45 0 rfl trivial ?_
        refine R_if (t := 34) hc45 rfl rfl (fun (c4 : ¬ b66 = 0) => ?_) (fun (c4 : ¬ (¬ b66 = 0)) => ?_)
        · refine R_s (P := True) (f' := (35, [some (vR 17), some (vR 56), some (vI x), none], [vR 17], LAY (u (u (u A 62 (A 62)) 63 (A 63)) 64 (A 64)) (u (u F 7 (F 7)) 6 a66), 0, 0)) hc45 1 rfl trivial ?_
          refine R_cv hc45 rfl rfl (l_next (A := (u (u (u A 62 (A 62)) 63 (A 63)) 64 (A 64))) (F := (u (u F 7 (F 7)) 6 a66)) (LENS_u (LENS_u (LENS_u hL (by show (A 62).length = (A 62).length; omega)) (by show (A 63).length = (A 63).length; omega)) (by show (A 64).length = (A 64).length; omega)) h5 ⟨by (show 0 ≤ a66); omega, by (show a66 ≤ F 5); omega⟩) (fun r G9 hp9 => ?_)
          obtain ⟨e1, rfl⟩ := hp9
          have e2 : r = some (vI (nx (A 18) (F 5) (a66))) := e1
          clear e1
          subst e2
          refine R_s (f' := (38, [some (vR 17), some (vR 56), some (vI x), none], [vI (nx (A 18) (F 5) (a66))], LAY (u (u (u A 62 (A 62)) 63 (A 63)) 64 (A 64)) (u (u F 7 (F 7)) 6 a66), 0, 0)) hc45 0 rfl trivial ?_
          refine R_s (P := True) (f' := (40, [some (vR 17), some (vR 56), some (vI x), none], [vI 101, vI (nx (A 18) (F 5) (a66))], LAY (u (u (u A 62 (A 62)) 63 (A 63)) 64 (A 64)) (u (u F 7 (F 7)) 6 a66), 0, 0)) hc45 1 rfl trivial ?_
          refine R_ic (t := 47) hc45 rfl rfl (fun (c5 : ¬ nx (A 18) (F 5) (a66) = 101) => ?_) (fun (c5 : ¬ (¬ nx (A 18) (F 5) (a66) = 101)) => ?_)
          · refine R_s (P := True) (f' := (55, [some (vR 17), some (vR 56), some (vI x), some (vI 0)], [vI 0, vI x, vR 62], LAY (u (u (u A 62 (A 62)) 63 (A 63)) 64 (A 64)) (u (u F 7 (F 7)) 6 a66), 0, 0)) hc45 6 rfl trivial ?_
            refine R_if (t := 62) hc45 rfl rfl (fun (_ : 0 = 0) => ?_) (fun (z : ¬ (0 = 0)) => absurd (by decide) z)
            refine R_s (P := (0 ≤ x ∧ x < ((A 62).length : Int)) ∧ True) (f' := (66, [some (vR 17), some (vR 56), some (vI x), some (vI 0)], [vI 0, vR 17], LAY (u (u (u A 63 (A 63)) 64 (A 64)) 62 (wr (A 62) x 2)) (u (u F 7 (F 7)) 6 a66), 0, 0)) hc45 4 rfl ⟨⟨by omega, by omega⟩, trivial⟩ ?_
            refine R_if (t := 74) hc45 rfl rfl (fun (_ : 0 = 0) => ?_) (fun (z : ¬ (0 = 0)) => absurd (by decide) z)
            refine R_s (P := True) (f' := (76, [some (vR 17), some (vR 56), some (vI x), some (vI 0)], [vS 6, vR 17], LAY (u (u (u A 63 (A 63)) 64 (A 64)) 62 (wr (A 62) x 2)) (u (u F 7 (F 7)) 6 a66), 0, 0)) hc45 1 rfl trivial ?_
            refine R_cv hc45 rfl rfl (l_word6 (A := (u (u (u A 63 (A 63)) 64 (A 64)) 62 (wr (A 62) x 2))) (F := (u (u F 7 (F 7)) 6 a66)) (LENS_u (LENS_u (LENS_u hL (by show (A 63).length = (A 63).length; omega)) (by show (A 64).length = (A 64).length; omega)) (by show (wr (A 62) x 2).length = (A 62).length; simp only [wr_len])) h5 ⟨by (show 0 ≤ a66); omega, by (show a66 ≤ F 5); omega⟩) (fun r G9 hp9 => ?_)
            obtain ⟨b67, a67, rfl, rfl, hb67, hw67, p67, q67⟩ := hp9
            have p67 : 0 ≤ a67 := p67
            have q67 : a67 ≤ F 5 := q67
            refine R_s (f' := (79, [some (vR 17), some (vR 56), some (vI x), some (vI 0)], [vI b67], LAY (u (u (u A 63 (A 63)) 64 (A 64)) 62 (wr (A 62) x 2)) (u (u F 7 (F 7)) 6 a67), 0, 0)) hc45 0 rfl trivial ?_
            refine R_retz hc45 rfl rfl (by omega) ?_
            refine R_s (f' := (26, [some (vR 17), some (vR 56), some (vI x), none], [vI b67], LAY (u (u (u A 63 (A 63)) 64 (A 64)) 62 (wr (A 62) x 2)) (u (u F 7 (F 7)) 6 a67), 0, 0)) hc44 0 rfl trivial ?_
            refine R_if (t := 31) hc44 rfl rfl (fun (c8 : ¬ b67 = 0) => ?_) (fun (c8 : ¬ (¬ b67 = 0)) => ?_)
            · refine R_s (P := True) (f' := (32, [some (vR 17), some (vR 56), some (vI x), none], [vR 17], LAY (u (u (u A 63 (A 63)) 64 (A 64)) 62 (wr (A 62) x 2)) (u (u F 7 (F 7)) 6 a67), 0, 0)) hc44 1 rfl trivial ?_
              refine R_cv hc44 rfl rfl (l_next (A := (u (u (u A 63 (A 63)) 64 (A 64)) 62 (wr (A 62) x 2))) (F := (u (u F 7 (F 7)) 6 a67)) (LENS_u (LENS_u (LENS_u hL (by show (A 63).length = (A 63).length; omega)) (by show (A 64).length = (A 64).length; omega)) (by show (wr (A 62) x 2).length = (A 62).length; simp only [wr_len])) h5 ⟨by (show 0 ≤ a67); omega, by (show a67 ≤ F 5); omega⟩) (fun r G9 hp9 => ?_)
              obtain ⟨e1, rfl⟩ := hp9
              have e2 : r = some (vI (nx (A 18) (F 5) (a67))) := e1
              clear e1
              subst e2
              refine R_s (f' := (35, [some (vR 17), some (vR 56), some (vI x), none], [vI (nx (A 18) (F 5) (a67))], LAY (u (u (u A 63 (A 63)) 64 (A 64)) 62 (wr (A 62) x 2)) (u (u F 7 (F 7)) 6 a67), 0, 0)) hc44 0 rfl trivial ?_
              refine R_s (P := True) (f' := (39, [some (vR 17), some (vR 56), some (vI x), some (vI (nx (A 18) (F 5) (a67)))], [vI 61, vI (nx (A 18) (F 5) (a67))], LAY (u (u (u A 63 (A 63)) 64 (A 64)) 62 (wr (A 62) x 2)) (u (u F 7 (F 7)) 6 a67), 0, 0)) hc44 3 rfl trivial ?_
              refine R_ic (t := 56) hc44 rfl rfl (fun (c9 : nx (A 18) (F 5) (a67) = 61) => ?_) (fun (c9 : ¬ (nx (A 18) (F 5) (a67) = 61)) => ?_)
              · refine R_s (P := (0 ≤ x ∧ x < ((A 63).length : Int)) ∧ inI (a67 + 1) ∧ True) (f' := (75, [some (vR 17), some (vR 56), some (vI x), some (vI (nx (A 18) (F 5) (a67)))], [vI 4, vR 17], LAY (u (u (u A 64 (A 64)) 62 (wr (A 62) x 2)) 63 (wr (A 63) x (nx (A 18) (F 5) (a67)))) (u (u F 7 (F 7)) 6 (a67 + 1)), 0, 0)) hc44 13 rfl ⟨⟨by omega, by omega⟩, ⟨by omega, by omega⟩, trivial⟩ ?_
                refine R_cv hc44 rfl rfl (l_numb (A := (u (u (u A 64 (A 64)) 62 (wr (A 62) x 2)) 63 (wr (A 63) x (nx (A 18) (F 5) (a67))))) (F := (u (u F 7 (F 7)) 6 (a67 + 1))) (LENS_u (LENS_u (LENS_u hL (by show (A 64).length = (A 64).length; omega)) (by show (wr (A 62) x 2).length = (A 62).length; simp only [wr_len])) (by show (wr (A 63) x (nx (A 18) (F 5) (a67))).length = (A 63).length; simp only [wr_len])) h5 ⟨by (show 0 ≤ a67 + 1); omega, by (have := nx_in (l := A 18) (n := F 5) (a := a67) (by omega)); (show a67 + 1 ≤ F 5); omega⟩ (kk := 4) (by decide) rfl) (fun r G9 hp9 => ?_)
                obtain ⟨b68, a68, v68, rfl, rfl, hb68, hw68, p68, q68, w68⟩ := hp9
                have p68 : 0 ≤ a68 := p68
                have q68 : a68 ≤ F 5 := q68
                refine R_s (f' := (78, [some (vR 17), some (vR 56), some (vI x), some (vI (nx (A 18) (F 5) (a67)))], [vI b68], LAY (u (u (u A 64 (A 64)) 62 (wr (A 62) x 2)) 63 (wr (A 63) x (nx (A 18) (F 5) (a67)))) (u (u F 6 a68) 7 v68), 0, 0)) hc44 0 rfl trivial ?_
                refine R_if (t := 83) hc44 rfl rfl (fun (c10 : ¬ b68 = 0) => ?_) (fun (c10 : ¬ (¬ b68 = 0)) => ?_)
                · refine R_s (P := (0 ≤ x ∧ x < ((A 64).length : Int)) ∧ True) (f' := (94, [some (vR 17), some (vR 56), some (vI x), some (vI (nx (A 18) (F 5) (a67)))], [vI 1], LAY (u (u (u A 62 (wr (A 62) x 2)) 63 (wr (A 63) x (nx (A 18) (F 5) (a67)))) 64 (wr (A 64) x v68)) (u (u F 6 a68) 7 v68), 0, 0)) hc44 7 rfl ⟨⟨by omega, by omega⟩, trivial⟩ ?_
                  refine R_retz hc44 rfl rfl (Or.inr rfl) ⟨1, wr (A 62) x 2, wr (A 63) x (nx (A 18) (F 5) (a67)), wr (A 64) x v68, a68, v68, rfl, rfl, (by (try simp only [wr_len]); omega), (by (try simp only [wr_len]); omega), (by (try simp only [wr_len]); omega), by decide, by omega, by first | omega | (have := nx_in (l := A 18) (n := F 5) (a := F 6) (by omega); omega), fun q hq => by rw [rd_wr_n (by omega) (by omega) (by omega)], fun q hq => by rw [rd_wr_n (by omega) (by omega) (by omega)], fun q hq => by rw [rd_wr_n (by omega) (by omega) (by omega)], ?_⟩
                  have ehw65 : b65 = 1 := by omega
                  rw [ehw65] at hw65
                  have hw65n : wD (A 18) (F 5) IFF (0, F 6) = (0, a65) := hw65
                  have ehw66 : b66 = 1 := by omega
                  rw [ehw66] at hw66
                  have hw66n : wD (A 18) (F 5) YY (0, a65) = (0, a66) := hw66
                  have ehw67 : b67 = 1 := by omega
                  rw [ehw67] at hw67
                  have hw67n : wD (A 18) (F 5) IELD (0, a66) = (0, a67) := hw67
                  have ehw68 : b68 = 1 := by omega
                  rw [ehw68] at hw68
                  have hw68n : dG (A 18) (F 5) 4 (0, a67 + 1) = ((0, a68), v68) := hw68
                  have hYe : eE (A 18) (F 5) 121 (0, a65) = (0, a66) := hw66n
                  have e2 : t2 (A 18) (F 5) (0, F 6) = ((0, a67), 1) := by
                    unfold t2
                    rw [hw65n]
                    rw [if_pos rfl]
                    unfold fD
                    (try dsimp only)
                    rw [if_neg (by omega), hYe]
                    rw [if_neg (fun z => by have := z.2; (try dsimp only at this); omega), hw67n]
                  have e3 : t3 (A 18) (F 5) (0, F 6) = (0, a67 + 1) := by
                    unfold t3
                    rw [e2]
                    rw [if_pos ⟨rfl, by (try dsimp only); omega⟩]
                  have e4 : dG (A 18) (F 5) 4 (t3 (A 18) (F 5) (0, F 6)) = ((0, a68), v68) := by
                    rw [e3]
                    exact hw68n
                  have eS : tS (A 18) (F 5) (0, F 6) = (0, a68) := by
                    unfold tS
                    rw [if_pos ⟨rfl, by (try dsimp only); omega⟩, e4]
                  have eF : tF (A 18) (F 5) (0, F 6) = 1 := by
                    unfold tF
                    rw [if_pos ⟨rfl, by (try dsimp only); omega⟩, e2]
                  have eG : tG (A 18) (F 5) (0, F 6) = nx (A 18) (F 5) (a67) := by
                    unfold tG
                    rw [e2]
                  have eH : tH (A 18) (F 5) (0, F 6) = v68 := by
                    unfold tH
                    rw [e4]
                  refine ⟨eS, fun _ => ⟨?_, .inr ⟨?_, ?_⟩⟩⟩
                  · rw [eF, ← ex, rd_wr_s (by omega) (by (try simp only [wr_len]); omega)]
                    decide
                  · rw [eG, ← ex, rd_wr_s (by omega) (by (try simp only [wr_len]); omega)]
                  · rw [eH, ← ex, rd_wr_s (by omega) (by (try simp only [wr_len]); omega)]
                · refine R_s (P := True) (f' := (82, [some (vR 17), some (vR 56), some (vI x), some (vI (nx (A 18) (F 5) (a67)))], [vI 0], LAY (u (u (u A 64 (A 64)) 62 (wr (A 62) x 2)) 63 (wr (A 63) x (nx (A 18) (F 5) (a67)))) (u (u F 6 a68) 7 v68), 0, 0)) hc44 1 rfl trivial ?_
                  refine R_retz hc44 rfl rfl (Or.inl rfl) ⟨0, wr (A 62) x 2, wr (A 63) x (nx (A 18) (F 5) (a67)), A 64, a68, v68, rfl, rfl, (by (try simp only [wr_len]); omega), (by (try simp only [wr_len]); omega), (by (try simp only [wr_len]); omega), by decide, by omega, by first | omega | (have := nx_in (l := A 18) (n := F 5) (a := F 6) (by omega); omega), fun q hq => by rw [rd_wr_n (by omega) (by omega) (by omega)], fun q hq => by rw [rd_wr_n (by omega) (by omega) (by omega)], fun _ _ => rfl, ?_, fun z => absurd z (by decide)⟩
                  have ehw65 : b65 = 1 := by omega
                  rw [ehw65] at hw65
                  have hw65n : wD (A 18) (F 5) IFF (0, F 6) = (0, a65) := hw65
                  have ehw66 : b66 = 1 := by omega
                  rw [ehw66] at hw66
                  have hw66n : wD (A 18) (F 5) YY (0, a65) = (0, a66) := hw66
                  have ehw67 : b67 = 1 := by omega
                  rw [ehw67] at hw67
                  have hw67n : wD (A 18) (F 5) IELD (0, a66) = (0, a67) := hw67
                  have ehw68 : b68 = 0 := by omega
                  rw [ehw68] at hw68
                  have hw68n : dG (A 18) (F 5) 4 (0, a67 + 1) = ((1, a68), v68) := hw68
                  have hYe : eE (A 18) (F 5) 121 (0, a65) = (0, a66) := hw66n
                  have e2 : t2 (A 18) (F 5) (0, F 6) = ((0, a67), 1) := by
                    unfold t2
                    rw [hw65n]
                    rw [if_pos rfl]
                    unfold fD
                    (try dsimp only)
                    rw [if_neg (by omega), hYe]
                    rw [if_neg (fun z => by have := z.2; (try dsimp only at this); omega), hw67n]
                  have e3 : t3 (A 18) (F 5) (0, F 6) = (0, a67 + 1) := by
                    unfold t3
                    rw [e2]
                    rw [if_pos ⟨rfl, by (try dsimp only); omega⟩]
                  have e4 : dG (A 18) (F 5) 4 (t3 (A 18) (F 5) (0, F 6)) = ((1, a68), v68) := by
                    rw [e3]
                    exact hw68n
                  have eS : tS (A 18) (F 5) (0, F 6) = (1, a68) := by
                    unfold tS
                    rw [if_pos ⟨rfl, by (try dsimp only); omega⟩, e4]
                  exact eS
              · refine R_s (P := True) (f' := (45, [some (vR 17), some (vR 56), some (vI x), some (vI (nx (A 18) (F 5) (a67)))], [vI 60, vI (nx (A 18) (F 5) (a67))], LAY (u (u (u A 63 (A 63)) 64 (A 64)) 62 (wr (A 62) x 2)) (u (u F 7 (F 7)) 6 a67), 0, 0)) hc44 2 rfl trivial ?_
                refine R_ic (t := 56) hc44 rfl rfl (fun (c11 : nx (A 18) (F 5) (a67) = 60) => ?_) (fun (c11 : ¬ (nx (A 18) (F 5) (a67) = 60)) => ?_)
                · refine R_s (P := (0 ≤ x ∧ x < ((A 63).length : Int)) ∧ inI (a67 + 1) ∧ True) (f' := (75, [some (vR 17), some (vR 56), some (vI x), some (vI (nx (A 18) (F 5) (a67)))], [vI 4, vR 17], LAY (u (u (u A 64 (A 64)) 62 (wr (A 62) x 2)) 63 (wr (A 63) x (nx (A 18) (F 5) (a67)))) (u (u F 7 (F 7)) 6 (a67 + 1)), 0, 0)) hc44 13 rfl ⟨⟨by omega, by omega⟩, ⟨by omega, by omega⟩, trivial⟩ ?_
                  refine R_cv hc44 rfl rfl (l_numb (A := (u (u (u A 64 (A 64)) 62 (wr (A 62) x 2)) 63 (wr (A 63) x (nx (A 18) (F 5) (a67))))) (F := (u (u F 7 (F 7)) 6 (a67 + 1))) (LENS_u (LENS_u (LENS_u hL (by show (A 64).length = (A 64).length; omega)) (by show (wr (A 62) x 2).length = (A 62).length; simp only [wr_len])) (by show (wr (A 63) x (nx (A 18) (F 5) (a67))).length = (A 63).length; simp only [wr_len])) h5 ⟨by (show 0 ≤ a67 + 1); omega, by (have := nx_in (l := A 18) (n := F 5) (a := a67) (by omega)); (show a67 + 1 ≤ F 5); omega⟩ (kk := 4) (by decide) rfl) (fun r G9 hp9 => ?_)
                  obtain ⟨b69, a69, v69, rfl, rfl, hb69, hw69, p69, q69, w69⟩ := hp9
                  have p69 : 0 ≤ a69 := p69
                  have q69 : a69 ≤ F 5 := q69
                  refine R_s (f' := (78, [some (vR 17), some (vR 56), some (vI x), some (vI (nx (A 18) (F 5) (a67)))], [vI b69], LAY (u (u (u A 64 (A 64)) 62 (wr (A 62) x 2)) 63 (wr (A 63) x (nx (A 18) (F 5) (a67)))) (u (u F 6 a69) 7 v69), 0, 0)) hc44 0 rfl trivial ?_
                  refine R_if (t := 83) hc44 rfl rfl (fun (c12 : ¬ b69 = 0) => ?_) (fun (c12 : ¬ (¬ b69 = 0)) => ?_)
                  · refine R_s (P := (0 ≤ x ∧ x < ((A 64).length : Int)) ∧ True) (f' := (94, [some (vR 17), some (vR 56), some (vI x), some (vI (nx (A 18) (F 5) (a67)))], [vI 1], LAY (u (u (u A 62 (wr (A 62) x 2)) 63 (wr (A 63) x (nx (A 18) (F 5) (a67)))) 64 (wr (A 64) x v69)) (u (u F 6 a69) 7 v69), 0, 0)) hc44 7 rfl ⟨⟨by omega, by omega⟩, trivial⟩ ?_
                    refine R_retz hc44 rfl rfl (Or.inr rfl) ⟨1, wr (A 62) x 2, wr (A 63) x (nx (A 18) (F 5) (a67)), wr (A 64) x v69, a69, v69, rfl, rfl, (by (try simp only [wr_len]); omega), (by (try simp only [wr_len]); omega), (by (try simp only [wr_len]); omega), by decide, by omega, by first | omega | (have := nx_in (l := A 18) (n := F 5) (a := F 6) (by omega); omega), fun q hq => by rw [rd_wr_n (by omega) (by omega) (by omega)], fun q hq => by rw [rd_wr_n (by omega) (by omega) (by omega)], fun q hq => by rw [rd_wr_n (by omega) (by omega) (by omega)], ?_⟩
                    have ehw65 : b65 = 1 := by omega
                    rw [ehw65] at hw65
                    have hw65n : wD (A 18) (F 5) IFF (0, F 6) = (0, a65) := hw65
                    have ehw66 : b66 = 1 := by omega
                    rw [ehw66] at hw66
                    have hw66n : wD (A 18) (F 5) YY (0, a65) = (0, a66) := hw66
                    have ehw67 : b67 = 1 := by omega
                    rw [ehw67] at hw67
                    have hw67n : wD (A 18) (F 5) IELD (0, a66) = (0, a67) := hw67
                    have ehw69 : b69 = 1 := by omega
                    rw [ehw69] at hw69
                    have hw69n : dG (A 18) (F 5) 4 (0, a67 + 1) = ((0, a69), v69) := hw69
                    have hYe : eE (A 18) (F 5) 121 (0, a65) = (0, a66) := hw66n
                    have e2 : t2 (A 18) (F 5) (0, F 6) = ((0, a67), 1) := by
                      unfold t2
                      rw [hw65n]
                      rw [if_pos rfl]
                      unfold fD
                      (try dsimp only)
                      rw [if_neg (by omega), hYe]
                      rw [if_neg (fun z => by have := z.2; (try dsimp only at this); omega), hw67n]
                    have e3 : t3 (A 18) (F 5) (0, F 6) = (0, a67 + 1) := by
                      unfold t3
                      rw [e2]
                      rw [if_pos ⟨rfl, by (try dsimp only); omega⟩]
                    have e4 : dG (A 18) (F 5) 4 (t3 (A 18) (F 5) (0, F 6)) = ((0, a69), v69) := by
                      rw [e3]
                      exact hw69n
                    have eS : tS (A 18) (F 5) (0, F 6) = (0, a69) := by
                      unfold tS
                      rw [if_pos ⟨rfl, by (try dsimp only); omega⟩, e4]
                    have eF : tF (A 18) (F 5) (0, F 6) = 1 := by
                      unfold tF
                      rw [if_pos ⟨rfl, by (try dsimp only); omega⟩, e2]
                    have eG : tG (A 18) (F 5) (0, F 6) = nx (A 18) (F 5) (a67) := by
                      unfold tG
                      rw [e2]
                    have eH : tH (A 18) (F 5) (0, F 6) = v69 := by
                      unfold tH
                      rw [e4]
                    refine ⟨eS, fun _ => ⟨?_, .inr ⟨?_, ?_⟩⟩⟩
                    · rw [eF, ← ex, rd_wr_s (by omega) (by (try simp only [wr_len]); omega)]
                      decide
                    · rw [eG, ← ex, rd_wr_s (by omega) (by (try simp only [wr_len]); omega)]
                    · rw [eH, ← ex, rd_wr_s (by omega) (by (try simp only [wr_len]); omega)]
                  · refine R_s (P := True) (f' := (82, [some (vR 17), some (vR 56), some (vI x), some (vI (nx (A 18) (F 5) (a67)))], [vI 0], LAY (u (u (u A 64 (A 64)) 62 (wr (A 62) x 2)) 63 (wr (A 63) x (nx (A 18) (F 5) (a67)))) (u (u F 6 a69) 7 v69), 0, 0)) hc44 1 rfl trivial ?_
                    refine R_retz hc44 rfl rfl (Or.inl rfl) ⟨0, wr (A 62) x 2, wr (A 63) x (nx (A 18) (F 5) (a67)), A 64, a69, v69, rfl, rfl, (by (try simp only [wr_len]); omega), (by (try simp only [wr_len]); omega), (by (try simp only [wr_len]); omega), by decide, by omega, by first | omega | (have := nx_in (l := A 18) (n := F 5) (a := F 6) (by omega); omega), fun q hq => by rw [rd_wr_n (by omega) (by omega) (by omega)], fun q hq => by rw [rd_wr_n (by omega) (by omega) (by omega)], fun _ _ => rfl, ?_, fun z => absurd z (by decide)⟩
                    have ehw65 : b65 = 1 := by omega
                    rw [ehw65] at hw65
                    have hw65n : wD (A 18) (F 5) IFF (0, F 6) = (0, a65) := hw65
                    have ehw66 : b66 = 1 := by omega
                    rw [ehw66] at hw66
                    have hw66n : wD (A 18) (F 5) YY (0, a65) = (0, a66) := hw66
                    have ehw67 : b67 = 1 := by omega
                    rw [ehw67] at hw67
                    have hw67n : wD (A 18) (F 5) IELD (0, a66) = (0, a67) := hw67
                    have ehw69 : b69 = 0 := by omega
                    rw [ehw69] at hw69
                    have hw69n : dG (A 18) (F 5) 4 (0, a67 + 1) = ((1, a69), v69) := hw69
                    have hYe : eE (A 18) (F 5) 121 (0, a65) = (0, a66) := hw66n
                    have e2 : t2 (A 18) (F 5) (0, F 6) = ((0, a67), 1) := by
                      unfold t2
                      rw [hw65n]
                      rw [if_pos rfl]
                      unfold fD
                      (try dsimp only)
                      rw [if_neg (by omega), hYe]
                      rw [if_neg (fun z => by have := z.2; (try dsimp only at this); omega), hw67n]
                    have e3 : t3 (A 18) (F 5) (0, F 6) = (0, a67 + 1) := by
                      unfold t3
                      rw [e2]
                      rw [if_pos ⟨rfl, by (try dsimp only); omega⟩]
                    have e4 : dG (A 18) (F 5) 4 (t3 (A 18) (F 5) (0, F 6)) = ((1, a69), v69) := by
                      rw [e3]
                      exact hw69n
                    have eS : tS (A 18) (F 5) (0, F 6) = (1, a69) := by
                      unfold tS
                      rw [if_pos ⟨rfl, by (try dsimp only); omega⟩, e4]
                    exact eS
                · refine R_s (P := True) (f' := (51, [some (vR 17), some (vR 56), some (vI x), some (vI (nx (A 18) (F 5) (a67)))], [vI 62, vI (nx (A 18) (F 5) (a67))], LAY (u (u (u A 63 (A 63)) 64 (A 64)) 62 (wr (A 62) x 2)) (u (u F 7 (F 7)) 6 a67), 0, 0)) hc44 2 rfl trivial ?_
                  refine R_ic (t := 56) hc44 rfl rfl (fun (c13 : nx (A 18) (F 5) (a67) = 62) => ?_) (fun (c13 : ¬ (nx (A 18) (F 5) (a67) = 62)) => ?_)
                  · refine R_s (P := (0 ≤ x ∧ x < ((A 63).length : Int)) ∧ inI (a67 + 1) ∧ True) (f' := (75, [some (vR 17), some (vR 56), some (vI x), some (vI (nx (A 18) (F 5) (a67)))], [vI 4, vR 17], LAY (u (u (u A 64 (A 64)) 62 (wr (A 62) x 2)) 63 (wr (A 63) x (nx (A 18) (F 5) (a67)))) (u (u F 7 (F 7)) 6 (a67 + 1)), 0, 0)) hc44 13 rfl ⟨⟨by omega, by omega⟩, ⟨by omega, by omega⟩, trivial⟩ ?_
                    refine R_cv hc44 rfl rfl (l_numb (A := (u (u (u A 64 (A 64)) 62 (wr (A 62) x 2)) 63 (wr (A 63) x (nx (A 18) (F 5) (a67))))) (F := (u (u F 7 (F 7)) 6 (a67 + 1))) (LENS_u (LENS_u (LENS_u hL (by show (A 64).length = (A 64).length; omega)) (by show (wr (A 62) x 2).length = (A 62).length; simp only [wr_len])) (by show (wr (A 63) x (nx (A 18) (F 5) (a67))).length = (A 63).length; simp only [wr_len])) h5 ⟨by (show 0 ≤ a67 + 1); omega, by (have := nx_in (l := A 18) (n := F 5) (a := a67) (by omega)); (show a67 + 1 ≤ F 5); omega⟩ (kk := 4) (by decide) rfl) (fun r G9 hp9 => ?_)
                    obtain ⟨b70, a70, v70, rfl, rfl, hb70, hw70, p70, q70, w70⟩ := hp9
                    have p70 : 0 ≤ a70 := p70
                    have q70 : a70 ≤ F 5 := q70
                    refine R_s (f' := (78, [some (vR 17), some (vR 56), some (vI x), some (vI (nx (A 18) (F 5) (a67)))], [vI b70], LAY (u (u (u A 64 (A 64)) 62 (wr (A 62) x 2)) 63 (wr (A 63) x (nx (A 18) (F 5) (a67)))) (u (u F 6 a70) 7 v70), 0, 0)) hc44 0 rfl trivial ?_
                    refine R_if (t := 83) hc44 rfl rfl (fun (c14 : ¬ b70 = 0) => ?_) (fun (c14 : ¬ (¬ b70 = 0)) => ?_)
                    · refine R_s (P := (0 ≤ x ∧ x < ((A 64).length : Int)) ∧ True) (f' := (94, [some (vR 17), some (vR 56), some (vI x), some (vI (nx (A 18) (F 5) (a67)))], [vI 1], LAY (u (u (u A 62 (wr (A 62) x 2)) 63 (wr (A 63) x (nx (A 18) (F 5) (a67)))) 64 (wr (A 64) x v70)) (u (u F 6 a70) 7 v70), 0, 0)) hc44 7 rfl ⟨⟨by omega, by omega⟩, trivial⟩ ?_
                      refine R_retz hc44 rfl rfl (Or.inr rfl) ⟨1, wr (A 62) x 2, wr (A 63) x (nx (A 18) (F 5) (a67)), wr (A 64) x v70, a70, v70, rfl, rfl, (by (try simp only [wr_len]); omega), (by (try simp only [wr_len]); omega), (by (try simp only [wr_len]); omega), by decide, by omega, by first | omega | (have := nx_in (l := A 18) (n := F 5) (a := F 6) (by omega); omega), fun q hq => by rw [rd_wr_n (by omega) (by omega) (by omega)], fun q hq => by rw [rd_wr_n (by omega) (by omega) (by omega)], fun q hq => by rw [rd_wr_n (by omega) (by omega) (by omega)], ?_⟩
                      have ehw65 : b65 = 1 := by omega
                      rw [ehw65] at hw65
                      have hw65n : wD (A 18) (F 5) IFF (0, F 6) = (0, a65) := hw65
                      have ehw66 : b66 = 1 := by omega
                      rw [ehw66] at hw66
                      have hw66n : wD (A 18) (F 5) YY (0, a65) = (0, a66) := hw66
                      have ehw67 : b67 = 1 := by omega
                      rw [ehw67] at hw67
                      have hw67n : wD (A 18) (F 5) IELD (0, a66) = (0, a67) := hw67
                      have ehw70 : b70 = 1 := by omega
                      rw [ehw70] at hw70
                      have hw70n : dG (A 18) (F 5) 4 (0, a67 + 1) = ((0, a70), v70) := hw70
                      have hYe : eE (A 18) (F 5) 121 (0, a65) = (0, a66) := hw66n
                      have e2 : t2 (A 18) (F 5) (0, F 6) = ((0, a67), 1) := by
                        unfold t2
                        rw [hw65n]
                        rw [if_pos rfl]
                        unfold fD
                        (try dsimp only)
                        rw [if_neg (by omega), hYe]
                        rw [if_neg (fun z => by have := z.2; (try dsimp only at this); omega), hw67n]
                      have e3 : t3 (A 18) (F 5) (0, F 6) = (0, a67 + 1) := by
                        unfold t3
                        rw [e2]
                        rw [if_pos ⟨rfl, by (try dsimp only); omega⟩]
                      have e4 : dG (A 18) (F 5) 4 (t3 (A 18) (F 5) (0, F 6)) = ((0, a70), v70) := by
                        rw [e3]
                        exact hw70n
                      have eS : tS (A 18) (F 5) (0, F 6) = (0, a70) := by
                        unfold tS
                        rw [if_pos ⟨rfl, by (try dsimp only); omega⟩, e4]
                      have eF : tF (A 18) (F 5) (0, F 6) = 1 := by
                        unfold tF
                        rw [if_pos ⟨rfl, by (try dsimp only); omega⟩, e2]
                      have eG : tG (A 18) (F 5) (0, F 6) = nx (A 18) (F 5) (a67) := by
                        unfold tG
                        rw [e2]
                      have eH : tH (A 18) (F 5) (0, F 6) = v70 := by
                        unfold tH
                        rw [e4]
                      refine ⟨eS, fun _ => ⟨?_, .inr ⟨?_, ?_⟩⟩⟩
                      · rw [eF, ← ex, rd_wr_s (by omega) (by (try simp only [wr_len]); omega)]
                        decide
                      · rw [eG, ← ex, rd_wr_s (by omega) (by (try simp only [wr_len]); omega)]
                      · rw [eH, ← ex, rd_wr_s (by omega) (by (try simp only [wr_len]); omega)]
                    · refine R_s (P := True) (f' := (82, [some (vR 17), some (vR 56), some (vI x), some (vI (nx (A 18) (F 5) (a67)))], [vI 0], LAY (u (u (u A 64 (A 64)) 62 (wr (A 62) x 2)) 63 (wr (A 63) x (nx (A 18) (F 5) (a67)))) (u (u F 6 a70) 7 v70), 0, 0)) hc44 1 rfl trivial ?_
                      refine R_retz hc44 rfl rfl (Or.inl rfl) ⟨0, wr (A 62) x 2, wr (A 63) x (nx (A 18) (F 5) (a67)), A 64, a70, v70, rfl, rfl, (by (try simp only [wr_len]); omega), (by (try simp only [wr_len]); omega), (by (try simp only [wr_len]); omega), by decide, by omega, by first | omega | (have := nx_in (l := A 18) (n := F 5) (a := F 6) (by omega); omega), fun q hq => by rw [rd_wr_n (by omega) (by omega) (by omega)], fun q hq => by rw [rd_wr_n (by omega) (by omega) (by omega)], fun _ _ => rfl, ?_, fun z => absurd z (by decide)⟩
                      have ehw65 : b65 = 1 := by omega
                      rw [ehw65] at hw65
                      have hw65n : wD (A 18) (F 5) IFF (0, F 6) = (0, a65) := hw65
                      have ehw66 : b66 = 1 := by omega
                      rw [ehw66] at hw66
                      have hw66n : wD (A 18) (F 5) YY (0, a65) = (0, a66) := hw66
                      have ehw67 : b67 = 1 := by omega
                      rw [ehw67] at hw67
                      have hw67n : wD (A 18) (F 5) IELD (0, a66) = (0, a67) := hw67
                      have ehw70 : b70 = 0 := by omega
                      rw [ehw70] at hw70
                      have hw70n : dG (A 18) (F 5) 4 (0, a67 + 1) = ((1, a70), v70) := hw70
                      have hYe : eE (A 18) (F 5) 121 (0, a65) = (0, a66) := hw66n
                      have e2 : t2 (A 18) (F 5) (0, F 6) = ((0, a67), 1) := by
                        unfold t2
                        rw [hw65n]
                        rw [if_pos rfl]
                        unfold fD
                        (try dsimp only)
                        rw [if_neg (by omega), hYe]
                        rw [if_neg (fun z => by have := z.2; (try dsimp only at this); omega), hw67n]
                      have e3 : t3 (A 18) (F 5) (0, F 6) = (0, a67 + 1) := by
                        unfold t3
                        rw [e2]
                        rw [if_pos ⟨rfl, by (try dsimp only); omega⟩]
                      have e4 : dG (A 18) (F 5) 4 (t3 (A 18) (F 5) (0, F 6)) = ((1, a70), v70) := by
                        rw [e3]
                        exact hw70n
                      have eS : tS (A 18) (F 5) (0, F 6) = (1, a70) := by
                        unfold tS
                        rw [if_pos ⟨rfl, by (try dsimp only); omega⟩, e4]
                      exact eS
                  · refine R_s (P := True) (f' := (55, [some (vR 17), some (vR 56), some (vI x), some (vI (nx (A 18) (F 5) (a67)))], [vI 0], LAY (u (u (u A 63 (A 63)) 64 (A 64)) 62 (wr (A 62) x 2)) (u (u F 7 (F 7)) 6 a67), 0, 0)) hc44 1 rfl trivial ?_
                    refine R_retz hc44 rfl rfl (Or.inl rfl) ⟨0, wr (A 62) x 2, A 63, A 64, a67, F 7, rfl, rfl, (by (try simp only [wr_len]); omega), (by (try simp only [wr_len]); omega), (by (try simp only [wr_len]); omega), by decide, by omega, by first | omega | (have := nx_in (l := A 18) (n := F 5) (a := F 6) (by omega); omega), fun q hq => by rw [rd_wr_n (by omega) (by omega) (by omega)], fun _ _ => rfl, fun _ _ => rfl, ?_, fun z => absurd z (by decide)⟩
                    have ehw65 : b65 = 1 := by omega
                    rw [ehw65] at hw65
                    have hw65n : wD (A 18) (F 5) IFF (0, F 6) = (0, a65) := hw65
                    have ehw66 : b66 = 1 := by omega
                    rw [ehw66] at hw66
                    have hw66n : wD (A 18) (F 5) YY (0, a65) = (0, a66) := hw66
                    have ehw67 : b67 = 1 := by omega
                    rw [ehw67] at hw67
                    have hw67n : wD (A 18) (F 5) IELD (0, a66) = (0, a67) := hw67
                    have hYe : eE (A 18) (F 5) 121 (0, a65) = (0, a66) := hw66n
                    have e2 : t2 (A 18) (F 5) (0, F 6) = ((0, a67), 1) := by
                      unfold t2
                      rw [hw65n]
                      rw [if_pos rfl]
                      unfold fD
                      (try dsimp only)
                      rw [if_neg (by omega), hYe]
                      rw [if_neg (fun z => by have := z.2; (try dsimp only at this); omega), hw67n]
                    have e3 : t3 (A 18) (F 5) (0, F 6) = (1, a67) := by
                      unfold t3
                      rw [e2]
                      rw [if_neg (fun z => by have := z.2; (try dsimp only at this); omega)]
                    have e4 : dG (A 18) (F 5) 4 (t3 (A 18) (F 5) (0, F 6)) = ((1, a67), 0) := by rw [e3, dG_f]
                    have eS : tS (A 18) (F 5) (0, F 6) = (1, a67) := by
                      unfold tS
                      rw [if_pos ⟨rfl, by (try dsimp only); omega⟩, e4]
                    exact eS
            · refine R_s (P := True) (f' := (30, [some (vR 17), some (vR 56), some (vI x), none], [vI 0], LAY (u (u (u A 63 (A 63)) 64 (A 64)) 62 (wr (A 62) x 2)) (u (u F 7 (F 7)) 6 a67), 0, 0)) hc44 1 rfl trivial ?_
              refine R_retz hc44 rfl rfl (Or.inl rfl) ⟨0, wr (A 62) x 2, A 63, A 64, a67, F 7, rfl, rfl, (by (try simp only [wr_len]); omega), (by (try simp only [wr_len]); omega), (by (try simp only [wr_len]); omega), by decide, by omega, by first | omega | (have := nx_in (l := A 18) (n := F 5) (a := F 6) (by omega); omega), fun q hq => by rw [rd_wr_n (by omega) (by omega) (by omega)], fun _ _ => rfl, fun _ _ => rfl, ?_, fun z => absurd z (by decide)⟩
              have ehw65 : b65 = 1 := by omega
              rw [ehw65] at hw65
              have hw65n : wD (A 18) (F 5) IFF (0, F 6) = (0, a65) := hw65
              have ehw66 : b66 = 1 := by omega
              rw [ehw66] at hw66
              have hw66n : wD (A 18) (F 5) YY (0, a65) = (0, a66) := hw66
              have ehw67 : b67 = 0 := by omega
              rw [ehw67] at hw67
              have hw67n : wD (A 18) (F 5) IELD (0, a66) = (1, a67) := hw67
              have hYe : eE (A 18) (F 5) 121 (0, a65) = (0, a66) := hw66n
              have e2 : t2 (A 18) (F 5) (0, F 6) = ((1, a67), 1) := by
                unfold t2
                rw [hw65n]
                rw [if_pos rfl]
                unfold fD
                (try dsimp only)
                rw [if_neg (by omega), hYe]
                rw [if_neg (fun z => by have := z.2; (try dsimp only at this); omega), hw67n]
              have e3 : t3 (A 18) (F 5) (0, F 6) = (1, a67) := by
                unfold t3
                rw [e2]
                rw [if_neg (fun z => absurd (show (1 : Int) = 0 from z.1) (by decide))]
              have e4 : dG (A 18) (F 5) 4 (t3 (A 18) (F 5) (0, F 6)) = ((1, a67), 0) := by rw [e3, dG_f]
              have eS : tS (A 18) (F 5) (0, F 6) = (1, a67) := by
                unfold tS
                rw [if_pos ⟨rfl, by (try dsimp only); omega⟩, e4]
              exact eS
          · refine R_s (P := True) (f' := (55, [some (vR 17), some (vR 56), some (vI x), some (vI 1)], [vI 1, vI x, vR 62], LAY (u (u (u A 62 (A 62)) 63 (A 63)) 64 (A 64)) (u (u F 7 (F 7)) 6 a66), 0, 0)) hc45 7 rfl trivial ?_
            refine R_if (t := 62) hc45 rfl rfl (fun (z : 1 = 0) => absurd z (by decide)) (fun (_ : ¬ (1 = 0)) => ?_)
            refine R_s (P := (0 ≤ x ∧ x < ((A 62).length : Int)) ∧ True) (f' := (66, [some (vR 17), some (vR 56), some (vI x), some (vI 1)], [vI 1, vR 17], LAY (u (u (u A 63 (A 63)) 64 (A 64)) 62 (wr (A 62) x 1)) (u (u F 7 (F 7)) 6 a66), 0, 0)) hc45 5 rfl ⟨⟨by omega, by omega⟩, trivial⟩ ?_
            refine R_if (t := 74) hc45 rfl rfl (fun (z : 1 = 0) => absurd z (by decide)) (fun (_ : ¬ (1 = 0)) => ?_)
            refine R_s (P := True) (f' := (76, [some (vR 17), some (vR 56), some (vI x), some (vI 1)], [vS 5, vR 17], LAY (u (u (u A 63 (A 63)) 64 (A 64)) 62 (wr (A 62) x 1)) (u (u F 7 (F 7)) 6 a66), 0, 0)) hc45 2 rfl trivial ?_
            refine R_cv hc45 rfl rfl (l_word5 (A := (u (u (u A 63 (A 63)) 64 (A 64)) 62 (wr (A 62) x 1))) (F := (u (u F 7 (F 7)) 6 a66)) (LENS_u (LENS_u (LENS_u hL (by show (A 63).length = (A 63).length; omega)) (by show (A 64).length = (A 64).length; omega)) (by show (wr (A 62) x 1).length = (A 62).length; simp only [wr_len])) h5 ⟨by (show 0 ≤ a66); omega, by (show a66 ≤ F 5); omega⟩) (fun r G9 hp9 => ?_)
            obtain ⟨b71, a71, rfl, rfl, hb71, hw71, p71, q71⟩ := hp9
            have p71 : 0 ≤ a71 := p71
            have q71 : a71 ≤ F 5 := q71
            refine R_s (f' := (79, [some (vR 17), some (vR 56), some (vI x), some (vI 1)], [vI b71], LAY (u (u (u A 63 (A 63)) 64 (A 64)) 62 (wr (A 62) x 1)) (u (u F 7 (F 7)) 6 a71), 0, 0)) hc45 0 rfl trivial ?_
            refine R_retz hc45 rfl rfl (by omega) ?_
            refine R_s (f' := (26, [some (vR 17), some (vR 56), some (vI x), none], [vI b71], LAY (u (u (u A 63 (A 63)) 64 (A 64)) 62 (wr (A 62) x 1)) (u (u F 7 (F 7)) 6 a71), 0, 0)) hc44 0 rfl trivial ?_
            refine R_if (t := 31) hc44 rfl rfl (fun (c10 : ¬ b71 = 0) => ?_) (fun (c10 : ¬ (¬ b71 = 0)) => ?_)
            · refine R_s (P := True) (f' := (32, [some (vR 17), some (vR 56), some (vI x), none], [vR 17], LAY (u (u (u A 63 (A 63)) 64 (A 64)) 62 (wr (A 62) x 1)) (u (u F 7 (F 7)) 6 a71), 0, 0)) hc44 1 rfl trivial ?_
              refine R_cv hc44 rfl rfl (l_next (A := (u (u (u A 63 (A 63)) 64 (A 64)) 62 (wr (A 62) x 1))) (F := (u (u F 7 (F 7)) 6 a71)) (LENS_u (LENS_u (LENS_u hL (by show (A 63).length = (A 63).length; omega)) (by show (A 64).length = (A 64).length; omega)) (by show (wr (A 62) x 1).length = (A 62).length; simp only [wr_len])) h5 ⟨by (show 0 ≤ a71); omega, by (show a71 ≤ F 5); omega⟩) (fun r G9 hp9 => ?_)
              obtain ⟨e1, rfl⟩ := hp9
              have e2 : r = some (vI (nx (A 18) (F 5) (a71))) := e1
              clear e1
              subst e2
              refine R_s (f' := (35, [some (vR 17), some (vR 56), some (vI x), none], [vI (nx (A 18) (F 5) (a71))], LAY (u (u (u A 63 (A 63)) 64 (A 64)) 62 (wr (A 62) x 1)) (u (u F 7 (F 7)) 6 a71), 0, 0)) hc44 0 rfl trivial ?_
              refine R_s (P := True) (f' := (39, [some (vR 17), some (vR 56), some (vI x), some (vI (nx (A 18) (F 5) (a71)))], [vI 61, vI (nx (A 18) (F 5) (a71))], LAY (u (u (u A 63 (A 63)) 64 (A 64)) 62 (wr (A 62) x 1)) (u (u F 7 (F 7)) 6 a71), 0, 0)) hc44 3 rfl trivial ?_
              refine R_ic (t := 56) hc44 rfl rfl (fun (c11 : nx (A 18) (F 5) (a71) = 61) => ?_) (fun (c11 : ¬ (nx (A 18) (F 5) (a71) = 61)) => ?_)
              · refine R_s (P := (0 ≤ x ∧ x < ((A 63).length : Int)) ∧ inI (a71 + 1) ∧ True) (f' := (75, [some (vR 17), some (vR 56), some (vI x), some (vI (nx (A 18) (F 5) (a71)))], [vI 4, vR 17], LAY (u (u (u A 64 (A 64)) 62 (wr (A 62) x 1)) 63 (wr (A 63) x (nx (A 18) (F 5) (a71)))) (u (u F 7 (F 7)) 6 (a71 + 1)), 0, 0)) hc44 13 rfl ⟨⟨by omega, by omega⟩, ⟨by omega, by omega⟩, trivial⟩ ?_
                refine R_cv hc44 rfl rfl (l_numb (A := (u (u (u A 64 (A 64)) 62 (wr (A 62) x 1)) 63 (wr (A 63) x (nx (A 18) (F 5) (a71))))) (F := (u (u F 7 (F 7)) 6 (a71 + 1))) (LENS_u (LENS_u (LENS_u hL (by show (A 64).length = (A 64).length; omega)) (by show (wr (A 62) x 1).length = (A 62).length; simp only [wr_len])) (by show (wr (A 63) x (nx (A 18) (F 5) (a71))).length = (A 63).length; simp only [wr_len])) h5 ⟨by (show 0 ≤ a71 + 1); omega, by (have := nx_in (l := A 18) (n := F 5) (a := a71) (by omega)); (show a71 + 1 ≤ F 5); omega⟩ (kk := 4) (by decide) rfl) (fun r G9 hp9 => ?_)
                obtain ⟨b72, a72, v72, rfl, rfl, hb72, hw72, p72, q72, w72⟩ := hp9
                have p72 : 0 ≤ a72 := p72
                have q72 : a72 ≤ F 5 := q72
                refine R_s (f' := (78, [some (vR 17), some (vR 56), some (vI x), some (vI (nx (A 18) (F 5) (a71)))], [vI b72], LAY (u (u (u A 64 (A 64)) 62 (wr (A 62) x 1)) 63 (wr (A 63) x (nx (A 18) (F 5) (a71)))) (u (u F 6 a72) 7 v72), 0, 0)) hc44 0 rfl trivial ?_
                refine R_if (t := 83) hc44 rfl rfl (fun (c12 : ¬ b72 = 0) => ?_) (fun (c12 : ¬ (¬ b72 = 0)) => ?_)
                · refine R_s (P := (0 ≤ x ∧ x < ((A 64).length : Int)) ∧ True) (f' := (94, [some (vR 17), some (vR 56), some (vI x), some (vI (nx (A 18) (F 5) (a71)))], [vI 1], LAY (u (u (u A 62 (wr (A 62) x 1)) 63 (wr (A 63) x (nx (A 18) (F 5) (a71)))) 64 (wr (A 64) x v72)) (u (u F 6 a72) 7 v72), 0, 0)) hc44 7 rfl ⟨⟨by omega, by omega⟩, trivial⟩ ?_
                  refine R_retz hc44 rfl rfl (Or.inr rfl) ⟨1, wr (A 62) x 1, wr (A 63) x (nx (A 18) (F 5) (a71)), wr (A 64) x v72, a72, v72, rfl, rfl, (by (try simp only [wr_len]); omega), (by (try simp only [wr_len]); omega), (by (try simp only [wr_len]); omega), by decide, by omega, by first | omega | (have := nx_in (l := A 18) (n := F 5) (a := F 6) (by omega); omega), fun q hq => by rw [rd_wr_n (by omega) (by omega) (by omega)], fun q hq => by rw [rd_wr_n (by omega) (by omega) (by omega)], fun q hq => by rw [rd_wr_n (by omega) (by omega) (by omega)], ?_⟩
                  have ehw65 : b65 = 1 := by omega
                  rw [ehw65] at hw65
                  have hw65n : wD (A 18) (F 5) IFF (0, F 6) = (0, a65) := hw65
                  have ehw66 : b66 = 1 := by omega
                  rw [ehw66] at hw66
                  have hw66n : wD (A 18) (F 5) YY (0, a65) = (0, a66) := hw66
                  have ehw71 : b71 = 1 := by omega
                  rw [ehw71] at hw71
                  have hw71n : wD (A 18) (F 5) EAR (0, a66) = (0, a71) := hw71
                  have ehw72 : b72 = 1 := by omega
                  rw [ehw72] at hw72
                  have hw72n : dG (A 18) (F 5) 4 (0, a71 + 1) = ((0, a72), v72) := hw72
                  have hYe : eE (A 18) (F 5) 121 (0, a65) = (0, a66) := hw66n
                  have e2 : t2 (A 18) (F 5) (0, F 6) = ((0, a71), 0) := by
                    unfold t2
                    rw [hw65n]
                    rw [if_pos rfl]
                    unfold fD
                    (try dsimp only)
                    rw [if_neg (by omega), hYe]
                    rw [if_pos ⟨rfl, by (try dsimp only); omega⟩, hw71n]
                  have e3 : t3 (A 18) (F 5) (0, F 6) = (0, a71 + 1) := by
                    unfold t3
                    rw [e2]
                    rw [if_pos ⟨rfl, by (try dsimp only); omega⟩]
                  have e4 : dG (A 18) (F 5) 4 (t3 (A 18) (F 5) (0, F 6)) = ((0, a72), v72) := by
                    rw [e3]
                    exact hw72n
                  have eS : tS (A 18) (F 5) (0, F 6) = (0, a72) := by
                    unfold tS
                    rw [if_pos ⟨rfl, by (try dsimp only); omega⟩, e4]
                  have eF : tF (A 18) (F 5) (0, F 6) = 0 := by
                    unfold tF
                    rw [if_pos ⟨rfl, by (try dsimp only); omega⟩, e2]
                  have eG : tG (A 18) (F 5) (0, F 6) = nx (A 18) (F 5) (a71) := by
                    unfold tG
                    rw [e2]
                  have eH : tH (A 18) (F 5) (0, F 6) = v72 := by
                    unfold tH
                    rw [e4]
                  refine ⟨eS, fun _ => ⟨?_, .inr ⟨?_, ?_⟩⟩⟩
                  · rw [eF, ← ex, rd_wr_s (by omega) (by (try simp only [wr_len]); omega)]
                    decide
                  · rw [eG, ← ex, rd_wr_s (by omega) (by (try simp only [wr_len]); omega)]
                  · rw [eH, ← ex, rd_wr_s (by omega) (by (try simp only [wr_len]); omega)]
                · refine R_s (P := True) (f' := (82, [some (vR 17), some (vR 56), some (vI x), some (vI (nx (A 18) (F 5) (a71)))], [vI 0], LAY (u (u (u A 64 (A 64)) 62 (wr (A 62) x 1)) 63 (wr (A 63) x (nx (A 18) (F 5) (a71)))) (u (u F 6 a72) 7 v72), 0, 0)) hc44 1 rfl trivial ?_
                  refine R_retz hc44 rfl rfl (Or.inl rfl) ⟨0, wr (A 62) x 1, wr (A 63) x (nx (A 18) (F 5) (a71)), A 64, a72, v72, rfl, rfl, (by (try simp only [wr_len]); omega), (by (try simp only [wr_len]); omega), (by (try simp only [wr_len]); omega), by decide, by omega, by first | omega | (have := nx_in (l := A 18) (n := F 5) (a := F 6) (by omega); omega), fun q hq => by rw [rd_wr_n (by omega) (by omega) (by omega)], fun q hq => by rw [rd_wr_n (by omega) (by omega) (by omega)], fun _ _ => rfl, ?_, fun z => absurd z (by decide)⟩
                  have ehw65 : b65 = 1 := by omega
                  rw [ehw65] at hw65
                  have hw65n : wD (A 18) (F 5) IFF (0, F 6) = (0, a65) := hw65
                  have ehw66 : b66 = 1 := by omega
                  rw [ehw66] at hw66
                  have hw66n : wD (A 18) (F 5) YY (0, a65) = (0, a66) := hw66
                  have ehw71 : b71 = 1 := by omega
                  rw [ehw71] at hw71
                  have hw71n : wD (A 18) (F 5) EAR (0, a66) = (0, a71) := hw71
                  have ehw72 : b72 = 0 := by omega
                  rw [ehw72] at hw72
                  have hw72n : dG (A 18) (F 5) 4 (0, a71 + 1) = ((1, a72), v72) := hw72
                  have hYe : eE (A 18) (F 5) 121 (0, a65) = (0, a66) := hw66n
                  have e2 : t2 (A 18) (F 5) (0, F 6) = ((0, a71), 0) := by
                    unfold t2
                    rw [hw65n]
                    rw [if_pos rfl]
                    unfold fD
                    (try dsimp only)
                    rw [if_neg (by omega), hYe]
                    rw [if_pos ⟨rfl, by (try dsimp only); omega⟩, hw71n]
                  have e3 : t3 (A 18) (F 5) (0, F 6) = (0, a71 + 1) := by
                    unfold t3
                    rw [e2]
                    rw [if_pos ⟨rfl, by (try dsimp only); omega⟩]
                  have e4 : dG (A 18) (F 5) 4 (t3 (A 18) (F 5) (0, F 6)) = ((1, a72), v72) := by
                    rw [e3]
                    exact hw72n
                  have eS : tS (A 18) (F 5) (0, F 6) = (1, a72) := by
                    unfold tS
                    rw [if_pos ⟨rfl, by (try dsimp only); omega⟩, e4]
                  exact eS
              · refine R_s (P := True) (f' := (45, [some (vR 17), some (vR 56), some (vI x), some (vI (nx (A 18) (F 5) (a71)))], [vI 60, vI (nx (A 18) (F 5) (a71))], LAY (u (u (u A 63 (A 63)) 64 (A 64)) 62 (wr (A 62) x 1)) (u (u F 7 (F 7)) 6 a71), 0, 0)) hc44 2 rfl trivial ?_
                refine R_ic (t := 56) hc44 rfl rfl (fun (c13 : nx (A 18) (F 5) (a71) = 60) => ?_) (fun (c13 : ¬ (nx (A 18) (F 5) (a71) = 60)) => ?_)
                · refine R_s (P := (0 ≤ x ∧ x < ((A 63).length : Int)) ∧ inI (a71 + 1) ∧ True) (f' := (75, [some (vR 17), some (vR 56), some (vI x), some (vI (nx (A 18) (F 5) (a71)))], [vI 4, vR 17], LAY (u (u (u A 64 (A 64)) 62 (wr (A 62) x 1)) 63 (wr (A 63) x (nx (A 18) (F 5) (a71)))) (u (u F 7 (F 7)) 6 (a71 + 1)), 0, 0)) hc44 13 rfl ⟨⟨by omega, by omega⟩, ⟨by omega, by omega⟩, trivial⟩ ?_
                  refine R_cv hc44 rfl rfl (l_numb (A := (u (u (u A 64 (A 64)) 62 (wr (A 62) x 1)) 63 (wr (A 63) x (nx (A 18) (F 5) (a71))))) (F := (u (u F 7 (F 7)) 6 (a71 + 1))) (LENS_u (LENS_u (LENS_u hL (by show (A 64).length = (A 64).length; omega)) (by show (wr (A 62) x 1).length = (A 62).length; simp only [wr_len])) (by show (wr (A 63) x (nx (A 18) (F 5) (a71))).length = (A 63).length; simp only [wr_len])) h5 ⟨by (show 0 ≤ a71 + 1); omega, by (have := nx_in (l := A 18) (n := F 5) (a := a71) (by omega)); (show a71 + 1 ≤ F 5); omega⟩ (kk := 4) (by decide) rfl) (fun r G9 hp9 => ?_)
                  obtain ⟨b73, a73, v73, rfl, rfl, hb73, hw73, p73, q73, w73⟩ := hp9
                  have p73 : 0 ≤ a73 := p73
                  have q73 : a73 ≤ F 5 := q73
                  refine R_s (f' := (78, [some (vR 17), some (vR 56), some (vI x), some (vI (nx (A 18) (F 5) (a71)))], [vI b73], LAY (u (u (u A 64 (A 64)) 62 (wr (A 62) x 1)) 63 (wr (A 63) x (nx (A 18) (F 5) (a71)))) (u (u F 6 a73) 7 v73), 0, 0)) hc44 0 rfl trivial ?_
                  refine R_if (t := 83) hc44 rfl rfl (fun (c14 : ¬ b73 = 0) => ?_) (fun (c14 : ¬ (¬ b73 = 0)) => ?_)
                  · refine R_s (P := (0 ≤ x ∧ x < ((A 64).length : Int)) ∧ True) (f' := (94, [some (vR 17), some (vR 56), some (vI x), some (vI (nx (A 18) (F 5) (a71)))], [vI 1], LAY (u (u (u A 62 (wr (A 62) x 1)) 63 (wr (A 63) x (nx (A 18) (F 5) (a71)))) 64 (wr (A 64) x v73)) (u (u F 6 a73) 7 v73), 0, 0)) hc44 7 rfl ⟨⟨by omega, by omega⟩, trivial⟩ ?_
                    refine R_retz hc44 rfl rfl (Or.inr rfl) ⟨1, wr (A 62) x 1, wr (A 63) x (nx (A 18) (F 5) (a71)), wr (A 64) x v73, a73, v73, rfl, rfl, (by (try simp only [wr_len]); omega), (by (try simp only [wr_len]); omega), (by (try simp only [wr_len]); omega), by decide, by omega, by first | omega | (have := nx_in (l := A 18) (n := F 5) (a := F 6) (by omega); omega), fun q hq => by rw [rd_wr_n (by omega) (by omega) (by omega)], fun q hq => by rw [rd_wr_n (by omega) (by omega) (by omega)], fun q hq => by rw [rd_wr_n (by omega) (by omega) (by omega)], ?_⟩
                    have ehw65 : b65 = 1 := by omega
                    rw [ehw65] at hw65
                    have hw65n : wD (A 18) (F 5) IFF (0, F 6) = (0, a65) := hw65
                    have ehw66 : b66 = 1 := by omega
                    rw [ehw66] at hw66
                    have hw66n : wD (A 18) (F 5) YY (0, a65) = (0, a66) := hw66
                    have ehw71 : b71 = 1 := by omega
                    rw [ehw71] at hw71
                    have hw71n : wD (A 18) (F 5) EAR (0, a66) = (0, a71) := hw71
                    have ehw73 : b73 = 1 := by omega
                    rw [ehw73] at hw73
                    have hw73n : dG (A 18) (F 5) 4 (0, a71 + 1) = ((0, a73), v73) := hw73
                    have hYe : eE (A 18) (F 5) 121 (0, a65) = (0, a66) := hw66n
                    have e2 : t2 (A 18) (F 5) (0, F 6) = ((0, a71), 0) := by
                      unfold t2
                      rw [hw65n]
                      rw [if_pos rfl]
                      unfold fD
                      (try dsimp only)
                      rw [if_neg (by omega), hYe]
                      rw [if_pos ⟨rfl, by (try dsimp only); omega⟩, hw71n]
                    have e3 : t3 (A 18) (F 5) (0, F 6) = (0, a71 + 1) := by
                      unfold t3
                      rw [e2]
                      rw [if_pos ⟨rfl, by (try dsimp only); omega⟩]
                    have e4 : dG (A 18) (F 5) 4 (t3 (A 18) (F 5) (0, F 6)) = ((0, a73), v73) := by
                      rw [e3]
                      exact hw73n
                    have eS : tS (A 18) (F 5) (0, F 6) = (0, a73) := by
                      unfold tS
                      rw [if_pos ⟨rfl, by (try dsimp only); omega⟩, e4]
                    have eF : tF (A 18) (F 5) (0, F 6) = 0 := by
                      unfold tF
                      rw [if_pos ⟨rfl, by (try dsimp only); omega⟩, e2]
                    have eG : tG (A 18) (F 5) (0, F 6) = nx (A 18) (F 5) (a71) := by
                      unfold tG
                      rw [e2]
                    have eH : tH (A 18) (F 5) (0, F 6) = v73 := by
                      unfold tH
                      rw [e4]
                    refine ⟨eS, fun _ => ⟨?_, .inr ⟨?_, ?_⟩⟩⟩
                    · rw [eF, ← ex, rd_wr_s (by omega) (by (try simp only [wr_len]); omega)]
                      decide
                    · rw [eG, ← ex, rd_wr_s (by omega) (by (try simp only [wr_len]); omega)]
                    · rw [eH, ← ex, rd_wr_s (by omega) (by (try simp only [wr_len]); omega)]
                  · refine R_s (P := True) (f' := (82, [some (vR 17), some (vR 56), some (vI x), some (vI (nx (A 18) (F 5) (a71)))], [vI 0], LAY (u (u (u A 64 (A 64)) 62 (wr (A 62) x 1)) 63 (wr (A 63) x (nx (A 18) (F 5) (a71)))) (u (u F 6 a73) 7 v73), 0, 0)) hc44 1 rfl trivial ?_
                    refine R_retz hc44 rfl rfl (Or.inl rfl) ⟨0, wr (A 62) x 1, wr (A 63) x (nx (A 18) (F 5) (a71)), A 64, a73, v73, rfl, rfl, (by (try simp only [wr_len]); omega), (by (try simp only [wr_len]); omega), (by (try simp only [wr_len]); omega), by decide, by omega, by first | omega | (have := nx_in (l := A 18) (n := F 5) (a := F 6) (by omega); omega), fun q hq => by rw [rd_wr_n (by omega) (by omega) (by omega)], fun q hq => by rw [rd_wr_n (by omega) (by omega) (by omega)], fun _ _ => rfl, ?_, fun z => absurd z (by decide)⟩
                    have ehw65 : b65 = 1 := by omega
                    rw [ehw65] at hw65
                    have hw65n : wD (A 18) (F 5) IFF (0, F 6) = (0, a65) := hw65
                    have ehw66 : b66 = 1 := by omega
                    rw [ehw66] at hw66
                    have hw66n : wD (A 18) (F 5) YY (0, a65) = (0, a66) := hw66
                    have ehw71 : b71 = 1 := by omega
                    rw [ehw71] at hw71
                    have hw71n : wD (A 18) (F 5) EAR (0, a66) = (0, a71) := hw71
                    have ehw73 : b73 = 0 := by omega
                    rw [ehw73] at hw73
                    have hw73n : dG (A 18) (F 5) 4 (0, a71 + 1) = ((1, a73), v73) := hw73
                    have hYe : eE (A 18) (F 5) 121 (0, a65) = (0, a66) := hw66n
                    have e2 : t2 (A 18) (F 5) (0, F 6) = ((0, a71), 0) := by
                      unfold t2
                      rw [hw65n]
                      rw [if_pos rfl]
                      unfold fD
                      (try dsimp only)
                      rw [if_neg (by omega), hYe]
                      rw [if_pos ⟨rfl, by (try dsimp only); omega⟩, hw71n]
                    have e3 : t3 (A 18) (F 5) (0, F 6) = (0, a71 + 1) := by
                      unfold t3
                      rw [e2]
                      rw [if_pos ⟨rfl, by (try dsimp only); omega⟩]
                    have e4 : dG (A 18) (F 5) 4 (t3 (A 18) (F 5) (0, F 6)) = ((1, a73), v73) := by
                      rw [e3]
                      exact hw73n
                    have eS : tS (A 18) (F 5) (0, F 6) = (1, a73) := by
                      unfold tS
                      rw [if_pos ⟨rfl, by (try dsimp only); omega⟩, e4]
                    exact eS
                · refine R_s (P := True) (f' := (51, [some (vR 17), some (vR 56), some (vI x), some (vI (nx (A 18) (F 5) (a71)))], [vI 62, vI (nx (A 18) (F 5) (a71))], LAY (u (u (u A 63 (A 63)) 64 (A 64)) 62 (wr (A 62) x 1)) (u (u F 7 (F 7)) 6 a71), 0, 0)) hc44 2 rfl trivial ?_
                  refine R_ic (t := 56) hc44 rfl rfl (fun (c15 : nx (A 18) (F 5) (a71) = 62) => ?_) (fun (c15 : ¬ (nx (A 18) (F 5) (a71) = 62)) => ?_)
                  · refine R_s (P := (0 ≤ x ∧ x < ((A 63).length : Int)) ∧ inI (a71 + 1) ∧ True) (f' := (75, [some (vR 17), some (vR 56), some (vI x), some (vI (nx (A 18) (F 5) (a71)))], [vI 4, vR 17], LAY (u (u (u A 64 (A 64)) 62 (wr (A 62) x 1)) 63 (wr (A 63) x (nx (A 18) (F 5) (a71)))) (u (u F 7 (F 7)) 6 (a71 + 1)), 0, 0)) hc44 13 rfl ⟨⟨by omega, by omega⟩, ⟨by omega, by omega⟩, trivial⟩ ?_
                    refine R_cv hc44 rfl rfl (l_numb (A := (u (u (u A 64 (A 64)) 62 (wr (A 62) x 1)) 63 (wr (A 63) x (nx (A 18) (F 5) (a71))))) (F := (u (u F 7 (F 7)) 6 (a71 + 1))) (LENS_u (LENS_u (LENS_u hL (by show (A 64).length = (A 64).length; omega)) (by show (wr (A 62) x 1).length = (A 62).length; simp only [wr_len])) (by show (wr (A 63) x (nx (A 18) (F 5) (a71))).length = (A 63).length; simp only [wr_len])) h5 ⟨by (show 0 ≤ a71 + 1); omega, by (have := nx_in (l := A 18) (n := F 5) (a := a71) (by omega)); (show a71 + 1 ≤ F 5); omega⟩ (kk := 4) (by decide) rfl) (fun r G9 hp9 => ?_)
                    obtain ⟨b74, a74, v74, rfl, rfl, hb74, hw74, p74, q74, w74⟩ := hp9
                    have p74 : 0 ≤ a74 := p74
                    have q74 : a74 ≤ F 5 := q74
                    refine R_s (f' := (78, [some (vR 17), some (vR 56), some (vI x), some (vI (nx (A 18) (F 5) (a71)))], [vI b74], LAY (u (u (u A 64 (A 64)) 62 (wr (A 62) x 1)) 63 (wr (A 63) x (nx (A 18) (F 5) (a71)))) (u (u F 6 a74) 7 v74), 0, 0)) hc44 0 rfl trivial ?_
                    refine R_if (t := 83) hc44 rfl rfl (fun (c16 : ¬ b74 = 0) => ?_) (fun (c16 : ¬ (¬ b74 = 0)) => ?_)
                    · refine R_s (P := (0 ≤ x ∧ x < ((A 64).length : Int)) ∧ True) (f' := (94, [some (vR 17), some (vR 56), some (vI x), some (vI (nx (A 18) (F 5) (a71)))], [vI 1], LAY (u (u (u A 62 (wr (A 62) x 1)) 63 (wr (A 63) x (nx (A 18) (F 5) (a71)))) 64 (wr (A 64) x v74)) (u (u F 6 a74) 7 v74), 0, 0)) hc44 7 rfl ⟨⟨by omega, by omega⟩, trivial⟩ ?_
                      refine R_retz hc44 rfl rfl (Or.inr rfl) ⟨1, wr (A 62) x 1, wr (A 63) x (nx (A 18) (F 5) (a71)), wr (A 64) x v74, a74, v74, rfl, rfl, (by (try simp only [wr_len]); omega), (by (try simp only [wr_len]); omega), (by (try simp only [wr_len]); omega), by decide, by omega, by first | omega | (have := nx_in (l := A 18) (n := F 5) (a := F 6) (by omega); omega), fun q hq => by rw [rd_wr_n (by omega) (by omega) (by omega)], fun q hq => by rw [rd_wr_n (by omega) (by omega) (by omega)], fun q hq => by rw [rd_wr_n (by omega) (by omega) (by omega)], ?_⟩
                      have ehw65 : b65 = 1 := by omega
                      rw [ehw65] at hw65
                      have hw65n : wD (A 18) (F 5) IFF (0, F 6) = (0, a65) := hw65
                      have ehw66 : b66 = 1 := by omega
                      rw [ehw66] at hw66
                      have hw66n : wD (A 18) (F 5) YY (0, a65) = (0, a66) := hw66
                      have ehw71 : b71 = 1 := by omega
                      rw [ehw71] at hw71
                      have hw71n : wD (A 18) (F 5) EAR (0, a66) = (0, a71) := hw71
                      have ehw74 : b74 = 1 := by omega
                      rw [ehw74] at hw74
                      have hw74n : dG (A 18) (F 5) 4 (0, a71 + 1) = ((0, a74), v74) := hw74
                      have hYe : eE (A 18) (F 5) 121 (0, a65) = (0, a66) := hw66n
                      have e2 : t2 (A 18) (F 5) (0, F 6) = ((0, a71), 0) := by
                        unfold t2
                        rw [hw65n]
                        rw [if_pos rfl]
                        unfold fD
                        (try dsimp only)
                        rw [if_neg (by omega), hYe]
                        rw [if_pos ⟨rfl, by (try dsimp only); omega⟩, hw71n]
                      have e3 : t3 (A 18) (F 5) (0, F 6) = (0, a71 + 1) := by
                        unfold t3
                        rw [e2]
                        rw [if_pos ⟨rfl, by (try dsimp only); omega⟩]
                      have e4 : dG (A 18) (F 5) 4 (t3 (A 18) (F 5) (0, F 6)) = ((0, a74), v74) := by
                        rw [e3]
                        exact hw74n
                      have eS : tS (A 18) (F 5) (0, F 6) = (0, a74) := by
                        unfold tS
                        rw [if_pos ⟨rfl, by (try dsimp only); omega⟩, e4]
                      have eF : tF (A 18) (F 5) (0, F 6) = 0 := by
                        unfold tF
                        rw [if_pos ⟨rfl, by (try dsimp only); omega⟩, e2]
                      have eG : tG (A 18) (F 5) (0, F 6) = nx (A 18) (F 5) (a71) := by
                        unfold tG
                        rw [e2]
                      have eH : tH (A 18) (F 5) (0, F 6) = v74 := by
                        unfold tH
                        rw [e4]
                      refine ⟨eS, fun _ => ⟨?_, .inr ⟨?_, ?_⟩⟩⟩
                      · rw [eF, ← ex, rd_wr_s (by omega) (by (try simp only [wr_len]); omega)]
                        decide
                      · rw [eG, ← ex, rd_wr_s (by omega) (by (try simp only [wr_len]); omega)]
                      · rw [eH, ← ex, rd_wr_s (by omega) (by (try simp only [wr_len]); omega)]
                    · refine R_s (P := True) (f' := (82, [some (vR 17), some (vR 56), some (vI x), some (vI (nx (A 18) (F 5) (a71)))], [vI 0], LAY (u (u (u A 64 (A 64)) 62 (wr (A 62) x 1)) 63 (wr (A 63) x (nx (A 18) (F 5) (a71)))) (u (u F 6 a74) 7 v74), 0, 0)) hc44 1 rfl trivial ?_
                      refine R_retz hc44 rfl rfl (Or.inl rfl) ⟨0, wr (A 62) x 1, wr (A 63) x (nx (A 18) (F 5) (a71)), A 64, a74, v74, rfl, rfl, (by (try simp only [wr_len]); omega), (by (try simp only [wr_len]); omega), (by (try simp only [wr_len]); omega), by decide, by omega, by first | omega | (have := nx_in (l := A 18) (n := F 5) (a := F 6) (by omega); omega), fun q hq => by rw [rd_wr_n (by omega) (by omega) (by omega)], fun q hq => by rw [rd_wr_n (by omega) (by omega) (by omega)], fun _ _ => rfl, ?_, fun z => absurd z (by decide)⟩
                      have ehw65 : b65 = 1 := by omega
                      rw [ehw65] at hw65
                      have hw65n : wD (A 18) (F 5) IFF (0, F 6) = (0, a65) := hw65
                      have ehw66 : b66 = 1 := by omega
                      rw [ehw66] at hw66
                      have hw66n : wD (A 18) (F 5) YY (0, a65) = (0, a66) := hw66
                      have ehw71 : b71 = 1 := by omega
                      rw [ehw71] at hw71
                      have hw71n : wD (A 18) (F 5) EAR (0, a66) = (0, a71) := hw71
                      have ehw74 : b74 = 0 := by omega
                      rw [ehw74] at hw74
                      have hw74n : dG (A 18) (F 5) 4 (0, a71 + 1) = ((1, a74), v74) := hw74
                      have hYe : eE (A 18) (F 5) 121 (0, a65) = (0, a66) := hw66n
                      have e2 : t2 (A 18) (F 5) (0, F 6) = ((0, a71), 0) := by
                        unfold t2
                        rw [hw65n]
                        rw [if_pos rfl]
                        unfold fD
                        (try dsimp only)
                        rw [if_neg (by omega), hYe]
                        rw [if_pos ⟨rfl, by (try dsimp only); omega⟩, hw71n]
                      have e3 : t3 (A 18) (F 5) (0, F 6) = (0, a71 + 1) := by
                        unfold t3
                        rw [e2]
                        rw [if_pos ⟨rfl, by (try dsimp only); omega⟩]
                      have e4 : dG (A 18) (F 5) 4 (t3 (A 18) (F 5) (0, F 6)) = ((1, a74), v74) := by
                        rw [e3]
                        exact hw74n
                      have eS : tS (A 18) (F 5) (0, F 6) = (1, a74) := by
                        unfold tS
                        rw [if_pos ⟨rfl, by (try dsimp only); omega⟩, e4]
                      exact eS
                  · refine R_s (P := True) (f' := (55, [some (vR 17), some (vR 56), some (vI x), some (vI (nx (A 18) (F 5) (a71)))], [vI 0], LAY (u (u (u A 63 (A 63)) 64 (A 64)) 62 (wr (A 62) x 1)) (u (u F 7 (F 7)) 6 a71), 0, 0)) hc44 1 rfl trivial ?_
                    refine R_retz hc44 rfl rfl (Or.inl rfl) ⟨0, wr (A 62) x 1, A 63, A 64, a71, F 7, rfl, rfl, (by (try simp only [wr_len]); omega), (by (try simp only [wr_len]); omega), (by (try simp only [wr_len]); omega), by decide, by omega, by first | omega | (have := nx_in (l := A 18) (n := F 5) (a := F 6) (by omega); omega), fun q hq => by rw [rd_wr_n (by omega) (by omega) (by omega)], fun _ _ => rfl, fun _ _ => rfl, ?_, fun z => absurd z (by decide)⟩
                    have ehw65 : b65 = 1 := by omega
                    rw [ehw65] at hw65
                    have hw65n : wD (A 18) (F 5) IFF (0, F 6) = (0, a65) := hw65
                    have ehw66 : b66 = 1 := by omega
                    rw [ehw66] at hw66
                    have hw66n : wD (A 18) (F 5) YY (0, a65) = (0, a66) := hw66
                    have ehw71 : b71 = 1 := by omega
                    rw [ehw71] at hw71
                    have hw71n : wD (A 18) (F 5) EAR (0, a66) = (0, a71) := hw71
                    have hYe : eE (A 18) (F 5) 121 (0, a65) = (0, a66) := hw66n
                    have e2 : t2 (A 18) (F 5) (0, F 6) = ((0, a71), 0) := by
                      unfold t2
                      rw [hw65n]
                      rw [if_pos rfl]
                      unfold fD
                      (try dsimp only)
                      rw [if_neg (by omega), hYe]
                      rw [if_pos ⟨rfl, by (try dsimp only); omega⟩, hw71n]
                    have e3 : t3 (A 18) (F 5) (0, F 6) = (1, a71) := by
                      unfold t3
                      rw [e2]
                      rw [if_neg (fun z => by have := z.2; (try dsimp only at this); omega)]
                    have e4 : dG (A 18) (F 5) 4 (t3 (A 18) (F 5) (0, F 6)) = ((1, a71), 0) := by rw [e3, dG_f]
                    have eS : tS (A 18) (F 5) (0, F 6) = (1, a71) := by
                      unfold tS
                      rw [if_pos ⟨rfl, by (try dsimp only); omega⟩, e4]
                    exact eS
            · refine R_s (P := True) (f' := (30, [some (vR 17), some (vR 56), some (vI x), none], [vI 0], LAY (u (u (u A 63 (A 63)) 64 (A 64)) 62 (wr (A 62) x 1)) (u (u F 7 (F 7)) 6 a71), 0, 0)) hc44 1 rfl trivial ?_
              refine R_retz hc44 rfl rfl (Or.inl rfl) ⟨0, wr (A 62) x 1, A 63, A 64, a71, F 7, rfl, rfl, (by (try simp only [wr_len]); omega), (by (try simp only [wr_len]); omega), (by (try simp only [wr_len]); omega), by decide, by omega, by first | omega | (have := nx_in (l := A 18) (n := F 5) (a := F 6) (by omega); omega), fun q hq => by rw [rd_wr_n (by omega) (by omega) (by omega)], fun _ _ => rfl, fun _ _ => rfl, ?_, fun z => absurd z (by decide)⟩
              have ehw65 : b65 = 1 := by omega
              rw [ehw65] at hw65
              have hw65n : wD (A 18) (F 5) IFF (0, F 6) = (0, a65) := hw65
              have ehw66 : b66 = 1 := by omega
              rw [ehw66] at hw66
              have hw66n : wD (A 18) (F 5) YY (0, a65) = (0, a66) := hw66
              have ehw71 : b71 = 0 := by omega
              rw [ehw71] at hw71
              have hw71n : wD (A 18) (F 5) EAR (0, a66) = (1, a71) := hw71
              have hYe : eE (A 18) (F 5) 121 (0, a65) = (0, a66) := hw66n
              have e2 : t2 (A 18) (F 5) (0, F 6) = ((1, a71), 0) := by
                unfold t2
                rw [hw65n]
                rw [if_pos rfl]
                unfold fD
                (try dsimp only)
                rw [if_neg (by omega), hYe]
                rw [if_pos ⟨rfl, by (try dsimp only); omega⟩, hw71n]
              have e3 : t3 (A 18) (F 5) (0, F 6) = (1, a71) := by
                unfold t3
                rw [e2]
                rw [if_neg (fun z => absurd (show (1 : Int) = 0 from z.1) (by decide))]
              have e4 : dG (A 18) (F 5) 4 (t3 (A 18) (F 5) (0, F 6)) = ((1, a71), 0) := by rw [e3, dG_f]
              have eS : tS (A 18) (F 5) (0, F 6) = (1, a71) := by
                unfold tS
                rw [if_pos ⟨rfl, by (try dsimp only); omega⟩, e4]
              exact eS
        · refine R_s (P := True) (f' := (33, [some (vR 17), some (vR 56), some (vI x), none], [vI 0], LAY (u (u (u A 62 (A 62)) 63 (A 63)) 64 (A 64)) (u (u F 7 (F 7)) 6 a66), 0, 0)) hc45 1 rfl trivial ?_
          refine R_retz hc45 rfl rfl (Or.inl rfl) ?_
          refine R_s (f' := (26, [some (vR 17), some (vR 56), some (vI x), none], [vI 0], LAY (u (u (u A 62 (A 62)) 63 (A 63)) 64 (A 64)) (u (u F 7 (F 7)) 6 a66), 0, 0)) hc44 0 rfl trivial ?_
          refine R_if (t := 31) hc44 rfl rfl (fun (z : ¬ 0 = 0) => absurd z (by decide)) (fun (_ : ¬ (¬ 0 = 0)) => ?_)
          refine R_s (P := True) (f' := (30, [some (vR 17), some (vR 56), some (vI x), none], [vI 0], LAY (u (u (u A 62 (A 62)) 63 (A 63)) 64 (A 64)) (u (u F 7 (F 7)) 6 a66), 0, 0)) hc44 1 rfl trivial ?_
          refine R_retz hc44 rfl rfl (Or.inl rfl) ⟨0, A 62, A 63, A 64, a66, F 7, rfl, rfl, (by (try simp only [wr_len]); omega), (by (try simp only [wr_len]); omega), (by (try simp only [wr_len]); omega), by decide, by omega, by first | omega | (have := nx_in (l := A 18) (n := F 5) (a := F 6) (by omega); omega), fun _ _ => rfl, fun _ _ => rfl, fun _ _ => rfl, ?_, fun z => absurd z (by decide)⟩
          have ehw65 : b65 = 1 := by omega
          rw [ehw65] at hw65
          have hw65n : wD (A 18) (F 5) IFF (0, F 6) = (0, a65) := hw65
          have ehw66 : b66 = 0 := by omega
          rw [ehw66] at hw66
          have hw66n : wD (A 18) (F 5) YY (0, a65) = (1, a66) := hw66
          have hYe : eE (A 18) (F 5) 121 (0, a65) = (1, a66) := hw66n
          have e2 : t2 (A 18) (F 5) (0, F 6) = ((1, a66), 1) := by
            unfold t2
            rw [hw65n]
            rw [if_pos rfl]
            unfold fD
            (try dsimp only)
            rw [if_neg (by omega), hYe]
            rw [if_neg (fun z => absurd (show (1 : Int) = 0 from z.1) (by decide)), wD_f]
          have e3 : t3 (A 18) (F 5) (0, F 6) = (1, a66) := by
            unfold t3
            rw [e2]
            rw [if_neg (fun z => absurd (show (1 : Int) = 0 from z.1) (by decide))]
          have e4 : dG (A 18) (F 5) 4 (t3 (A 18) (F 5) (0, F 6)) = ((1, a66), 0) := by rw [e3, dG_f]
          have eS : tS (A 18) (F 5) (0, F 6) = (1, a66) := by
            unfold tS
            rw [if_pos ⟨rfl, by (try dsimp only); omega⟩, e4]
          exact eS
      · refine R_s (P := (0 ≤ x ∧ x < ((A 62).length : Int)) ∧ True) (f' := (19, [some (vR 17), some (vR 56), some (vI x), none], [vS 3, vR 17], LAY (u (u (u A 63 (A 63)) 64 (A 64)) 62 (wr (A 62) x 3)) (u (u F 7 (F 7)) 6 a65), 0, 0)) hc45 7 rfl ⟨⟨by omega, by omega⟩, trivial⟩ ?_
        refine R_cv hc45 rfl rfl (l_word3 (A := (u (u (u A 63 (A 63)) 64 (A 64)) 62 (wr (A 62) x 3))) (F := (u (u F 7 (F 7)) 6 a65)) (LENS_u (LENS_u (LENS_u hL (by show (A 63).length = (A 63).length; omega)) (by show (A 64).length = (A 64).length; omega)) (by show (wr (A 62) x 3).length = (A 62).length; simp only [wr_len])) h5 ⟨by (show 0 ≤ a65); omega, by (show a65 ≤ F 5); omega⟩) (fun r G9 hp9 => ?_)
        obtain ⟨b75, a75, rfl, rfl, hb75, hw75, p75, q75⟩ := hp9
        have p75 : 0 ≤ a75 := p75
        have q75 : a75 ≤ F 5 := q75
        refine R_s (f' := (22, [some (vR 17), some (vR 56), some (vI x), none], [vI b75], LAY (u (u (u A 63 (A 63)) 64 (A 64)) 62 (wr (A 62) x 3)) (u (u F 7 (F 7)) 6 a75), 0, 0)) hc45 0 rfl trivial ?_
        refine R_retz hc45 rfl rfl (by omega) ?_
        refine R_s (f' := (26, [some (vR 17), some (vR 56), some (vI x), none], [vI b75], LAY (u (u (u A 63 (A 63)) 64 (A 64)) 62 (wr (A 62) x 3)) (u (u F 7 (F 7)) 6 a75), 0, 0)) hc44 0 rfl trivial ?_
        refine R_if (t := 31) hc44 rfl rfl (fun (c10 : ¬ b75 = 0) => ?_) (fun (c10 : ¬ (¬ b75 = 0)) => ?_)
        · refine R_s (P := True) (f' := (32, [some (vR 17), some (vR 56), some (vI x), none], [vR 17], LAY (u (u (u A 63 (A 63)) 64 (A 64)) 62 (wr (A 62) x 3)) (u (u F 7 (F 7)) 6 a75), 0, 0)) hc44 1 rfl trivial ?_
          refine R_cv hc44 rfl rfl (l_next (A := (u (u (u A 63 (A 63)) 64 (A 64)) 62 (wr (A 62) x 3))) (F := (u (u F 7 (F 7)) 6 a75)) (LENS_u (LENS_u (LENS_u hL (by show (A 63).length = (A 63).length; omega)) (by show (A 64).length = (A 64).length; omega)) (by show (wr (A 62) x 3).length = (A 62).length; simp only [wr_len])) h5 ⟨by (show 0 ≤ a75); omega, by (show a75 ≤ F 5); omega⟩) (fun r G9 hp9 => ?_)
          obtain ⟨e1, rfl⟩ := hp9
          have e2 : r = some (vI (nx (A 18) (F 5) (a75))) := e1
          clear e1
          subst e2
          refine R_s (f' := (35, [some (vR 17), some (vR 56), some (vI x), none], [vI (nx (A 18) (F 5) (a75))], LAY (u (u (u A 63 (A 63)) 64 (A 64)) 62 (wr (A 62) x 3)) (u (u F 7 (F 7)) 6 a75), 0, 0)) hc44 0 rfl trivial ?_
          refine R_s (P := True) (f' := (39, [some (vR 17), some (vR 56), some (vI x), some (vI (nx (A 18) (F 5) (a75)))], [vI 61, vI (nx (A 18) (F 5) (a75))], LAY (u (u (u A 63 (A 63)) 64 (A 64)) 62 (wr (A 62) x 3)) (u (u F 7 (F 7)) 6 a75), 0, 0)) hc44 3 rfl trivial ?_
          refine R_ic (t := 56) hc44 rfl rfl (fun (c11 : nx (A 18) (F 5) (a75) = 61) => ?_) (fun (c11 : ¬ (nx (A 18) (F 5) (a75) = 61)) => ?_)
          · refine R_s (P := (0 ≤ x ∧ x < ((A 63).length : Int)) ∧ inI (a75 + 1) ∧ True) (f' := (75, [some (vR 17), some (vR 56), some (vI x), some (vI (nx (A 18) (F 5) (a75)))], [vI 4, vR 17], LAY (u (u (u A 64 (A 64)) 62 (wr (A 62) x 3)) 63 (wr (A 63) x (nx (A 18) (F 5) (a75)))) (u (u F 7 (F 7)) 6 (a75 + 1)), 0, 0)) hc44 13 rfl ⟨⟨by omega, by omega⟩, ⟨by omega, by omega⟩, trivial⟩ ?_
            refine R_cv hc44 rfl rfl (l_numb (A := (u (u (u A 64 (A 64)) 62 (wr (A 62) x 3)) 63 (wr (A 63) x (nx (A 18) (F 5) (a75))))) (F := (u (u F 7 (F 7)) 6 (a75 + 1))) (LENS_u (LENS_u (LENS_u hL (by show (A 64).length = (A 64).length; omega)) (by show (wr (A 62) x 3).length = (A 62).length; simp only [wr_len])) (by show (wr (A 63) x (nx (A 18) (F 5) (a75))).length = (A 63).length; simp only [wr_len])) h5 ⟨by (show 0 ≤ a75 + 1); omega, by (have := nx_in (l := A 18) (n := F 5) (a := a75) (by omega)); (show a75 + 1 ≤ F 5); omega⟩ (kk := 4) (by decide) rfl) (fun r G9 hp9 => ?_)
            obtain ⟨b76, a76, v76, rfl, rfl, hb76, hw76, p76, q76, w76⟩ := hp9
            have p76 : 0 ≤ a76 := p76
            have q76 : a76 ≤ F 5 := q76
            refine R_s (f' := (78, [some (vR 17), some (vR 56), some (vI x), some (vI (nx (A 18) (F 5) (a75)))], [vI b76], LAY (u (u (u A 64 (A 64)) 62 (wr (A 62) x 3)) 63 (wr (A 63) x (nx (A 18) (F 5) (a75)))) (u (u F 6 a76) 7 v76), 0, 0)) hc44 0 rfl trivial ?_
            refine R_if (t := 83) hc44 rfl rfl (fun (c12 : ¬ b76 = 0) => ?_) (fun (c12 : ¬ (¬ b76 = 0)) => ?_)
            · refine R_s (P := (0 ≤ x ∧ x < ((A 64).length : Int)) ∧ True) (f' := (94, [some (vR 17), some (vR 56), some (vI x), some (vI (nx (A 18) (F 5) (a75)))], [vI 1], LAY (u (u (u A 62 (wr (A 62) x 3)) 63 (wr (A 63) x (nx (A 18) (F 5) (a75)))) 64 (wr (A 64) x v76)) (u (u F 6 a76) 7 v76), 0, 0)) hc44 7 rfl ⟨⟨by omega, by omega⟩, trivial⟩ ?_
              refine R_retz hc44 rfl rfl (Or.inr rfl) ⟨1, wr (A 62) x 3, wr (A 63) x (nx (A 18) (F 5) (a75)), wr (A 64) x v76, a76, v76, rfl, rfl, (by (try simp only [wr_len]); omega), (by (try simp only [wr_len]); omega), (by (try simp only [wr_len]); omega), by decide, by omega, by first | omega | (have := nx_in (l := A 18) (n := F 5) (a := F 6) (by omega); omega), fun q hq => by rw [rd_wr_n (by omega) (by omega) (by omega)], fun q hq => by rw [rd_wr_n (by omega) (by omega) (by omega)], fun q hq => by rw [rd_wr_n (by omega) (by omega) (by omega)], ?_⟩
              have ehw65 : b65 = 1 := by omega
              rw [ehw65] at hw65
              have hw65n : wD (A 18) (F 5) IFF (0, F 6) = (0, a65) := hw65
              have ehw75 : b75 = 1 := by omega
              rw [ehw75] at hw75
              have hw75n : wD (A 18) (F 5) ALIVE (0, a65) = (0, a75) := hw75
              have ehw76 : b76 = 1 := by omega
              rw [ehw76] at hw76
              have hw76n : dG (A 18) (F 5) 4 (0, a75 + 1) = ((0, a76), v76) := hw76
              have e2 : t2 (A 18) (F 5) (0, F 6) = ((0, a75), 2) := by
                unfold t2
                rw [hw65n]
                rw [if_pos rfl]
                unfold fD
                (try dsimp only)
                rw [if_pos (by omega), hw75n]
              have e3 : t3 (A 18) (F 5) (0, F 6) = (0, a75 + 1) := by
                unfold t3
                rw [e2]
                rw [if_pos ⟨rfl, by (try dsimp only); omega⟩]
              have e4 : dG (A 18) (F 5) 4 (t3 (A 18) (F 5) (0, F 6)) = ((0, a76), v76) := by
                rw [e3]
                exact hw76n
              have eS : tS (A 18) (F 5) (0, F 6) = (0, a76) := by
                unfold tS
                rw [if_pos ⟨rfl, by (try dsimp only); omega⟩, e4]
              have eF : tF (A 18) (F 5) (0, F 6) = 2 := by
                unfold tF
                rw [if_pos ⟨rfl, by (try dsimp only); omega⟩, e2]
              have eG : tG (A 18) (F 5) (0, F 6) = nx (A 18) (F 5) (a75) := by
                unfold tG
                rw [e2]
              have eH : tH (A 18) (F 5) (0, F 6) = v76 := by
                unfold tH
                rw [e4]
              refine ⟨eS, fun _ => ⟨?_, .inr ⟨?_, ?_⟩⟩⟩
              · rw [eF, ← ex, rd_wr_s (by omega) (by (try simp only [wr_len]); omega)]
                decide
              · rw [eG, ← ex, rd_wr_s (by omega) (by (try simp only [wr_len]); omega)]
              · rw [eH, ← ex, rd_wr_s (by omega) (by (try simp only [wr_len]); omega)]
            · refine R_s (P := True) (f' := (82, [some (vR 17), some (vR 56), some (vI x), some (vI (nx (A 18) (F 5) (a75)))], [vI 0], LAY (u (u (u A 64 (A 64)) 62 (wr (A 62) x 3)) 63 (wr (A 63) x (nx (A 18) (F 5) (a75)))) (u (u F 6 a76) 7 v76), 0, 0)) hc44 1 rfl trivial ?_
              refine R_retz hc44 rfl rfl (Or.inl rfl) ⟨0, wr (A 62) x 3, wr (A 63) x (nx (A 18) (F 5) (a75)), A 64, a76, v76, rfl, rfl, (by (try simp only [wr_len]); omega), (by (try simp only [wr_len]); omega), (by (try simp only [wr_len]); omega), by decide, by omega, by first | omega | (have := nx_in (l := A 18) (n := F 5) (a := F 6) (by omega); omega), fun q hq => by rw [rd_wr_n (by omega) (by omega) (by omega)], fun q hq => by rw [rd_wr_n (by omega) (by omega) (by omega)], fun _ _ => rfl, ?_, fun z => absurd z (by decide)⟩
              have ehw65 : b65 = 1 := by omega
              rw [ehw65] at hw65
              have hw65n : wD (A 18) (F 5) IFF (0, F 6) = (0, a65) := hw65
              have ehw75 : b75 = 1 := by omega
              rw [ehw75] at hw75
              have hw75n : wD (A 18) (F 5) ALIVE (0, a65) = (0, a75) := hw75
              have ehw76 : b76 = 0 := by omega
              rw [ehw76] at hw76
              have hw76n : dG (A 18) (F 5) 4 (0, a75 + 1) = ((1, a76), v76) := hw76
              have e2 : t2 (A 18) (F 5) (0, F 6) = ((0, a75), 2) := by
                unfold t2
                rw [hw65n]
                rw [if_pos rfl]
                unfold fD
                (try dsimp only)
                rw [if_pos (by omega), hw75n]
              have e3 : t3 (A 18) (F 5) (0, F 6) = (0, a75 + 1) := by
                unfold t3
                rw [e2]
                rw [if_pos ⟨rfl, by (try dsimp only); omega⟩]
              have e4 : dG (A 18) (F 5) 4 (t3 (A 18) (F 5) (0, F 6)) = ((1, a76), v76) := by
                rw [e3]
                exact hw76n
              have eS : tS (A 18) (F 5) (0, F 6) = (1, a76) := by
                unfold tS
                rw [if_pos ⟨rfl, by (try dsimp only); omega⟩, e4]
              exact eS
          · refine R_s (P := True) (f' := (45, [some (vR 17), some (vR 56), some (vI x), some (vI (nx (A 18) (F 5) (a75)))], [vI 60, vI (nx (A 18) (F 5) (a75))], LAY (u (u (u A 63 (A 63)) 64 (A 64)) 62 (wr (A 62) x 3)) (u (u F 7 (F 7)) 6 a75), 0, 0)) hc44 2 rfl trivial ?_
            refine R_ic (t := 56) hc44 rfl rfl (fun (c13 : nx (A 18) (F 5) (a75) = 60) => ?_) (fun (c13 : ¬ (nx (A 18) (F 5) (a75) = 60)) => ?_)
            · refine R_s (P := (0 ≤ x ∧ x < ((A 63).length : Int)) ∧ inI (a75 + 1) ∧ True) (f' := (75, [some (vR 17), some (vR 56), some (vI x), some (vI (nx (A 18) (F 5) (a75)))], [vI 4, vR 17], LAY (u (u (u A 64 (A 64)) 62 (wr (A 62) x 3)) 63 (wr (A 63) x (nx (A 18) (F 5) (a75)))) (u (u F 7 (F 7)) 6 (a75 + 1)), 0, 0)) hc44 13 rfl ⟨⟨by omega, by omega⟩, ⟨by omega, by omega⟩, trivial⟩ ?_
              refine R_cv hc44 rfl rfl (l_numb (A := (u (u (u A 64 (A 64)) 62 (wr (A 62) x 3)) 63 (wr (A 63) x (nx (A 18) (F 5) (a75))))) (F := (u (u F 7 (F 7)) 6 (a75 + 1))) (LENS_u (LENS_u (LENS_u hL (by show (A 64).length = (A 64).length; omega)) (by show (wr (A 62) x 3).length = (A 62).length; simp only [wr_len])) (by show (wr (A 63) x (nx (A 18) (F 5) (a75))).length = (A 63).length; simp only [wr_len])) h5 ⟨by (show 0 ≤ a75 + 1); omega, by (have := nx_in (l := A 18) (n := F 5) (a := a75) (by omega)); (show a75 + 1 ≤ F 5); omega⟩ (kk := 4) (by decide) rfl) (fun r G9 hp9 => ?_)
              obtain ⟨b77, a77, v77, rfl, rfl, hb77, hw77, p77, q77, w77⟩ := hp9
              have p77 : 0 ≤ a77 := p77
              have q77 : a77 ≤ F 5 := q77
              refine R_s (f' := (78, [some (vR 17), some (vR 56), some (vI x), some (vI (nx (A 18) (F 5) (a75)))], [vI b77], LAY (u (u (u A 64 (A 64)) 62 (wr (A 62) x 3)) 63 (wr (A 63) x (nx (A 18) (F 5) (a75)))) (u (u F 6 a77) 7 v77), 0, 0)) hc44 0 rfl trivial ?_
              refine R_if (t := 83) hc44 rfl rfl (fun (c14 : ¬ b77 = 0) => ?_) (fun (c14 : ¬ (¬ b77 = 0)) => ?_)
              · refine R_s (P := (0 ≤ x ∧ x < ((A 64).length : Int)) ∧ True) (f' := (94, [some (vR 17), some (vR 56), some (vI x), some (vI (nx (A 18) (F 5) (a75)))], [vI 1], LAY (u (u (u A 62 (wr (A 62) x 3)) 63 (wr (A 63) x (nx (A 18) (F 5) (a75)))) 64 (wr (A 64) x v77)) (u (u F 6 a77) 7 v77), 0, 0)) hc44 7 rfl ⟨⟨by omega, by omega⟩, trivial⟩ ?_
                refine R_retz hc44 rfl rfl (Or.inr rfl) ⟨1, wr (A 62) x 3, wr (A 63) x (nx (A 18) (F 5) (a75)), wr (A 64) x v77, a77, v77, rfl, rfl, (by (try simp only [wr_len]); omega), (by (try simp only [wr_len]); omega), (by (try simp only [wr_len]); omega), by decide, by omega, by first | omega | (have := nx_in (l := A 18) (n := F 5) (a := F 6) (by omega); omega), fun q hq => by rw [rd_wr_n (by omega) (by omega) (by omega)], fun q hq => by rw [rd_wr_n (by omega) (by omega) (by omega)], fun q hq => by rw [rd_wr_n (by omega) (by omega) (by omega)], ?_⟩
                have ehw65 : b65 = 1 := by omega
                rw [ehw65] at hw65
                have hw65n : wD (A 18) (F 5) IFF (0, F 6) = (0, a65) := hw65
                have ehw75 : b75 = 1 := by omega
                rw [ehw75] at hw75
                have hw75n : wD (A 18) (F 5) ALIVE (0, a65) = (0, a75) := hw75
                have ehw77 : b77 = 1 := by omega
                rw [ehw77] at hw77
                have hw77n : dG (A 18) (F 5) 4 (0, a75 + 1) = ((0, a77), v77) := hw77
                have e2 : t2 (A 18) (F 5) (0, F 6) = ((0, a75), 2) := by
                  unfold t2
                  rw [hw65n]
                  rw [if_pos rfl]
                  unfold fD
                  (try dsimp only)
                  rw [if_pos (by omega), hw75n]
                have e3 : t3 (A 18) (F 5) (0, F 6) = (0, a75 + 1) := by
                  unfold t3
                  rw [e2]
                  rw [if_pos ⟨rfl, by (try dsimp only); omega⟩]
                have e4 : dG (A 18) (F 5) 4 (t3 (A 18) (F 5) (0, F 6)) = ((0, a77), v77) := by
                  rw [e3]
                  exact hw77n
                have eS : tS (A 18) (F 5) (0, F 6) = (0, a77) := by
                  unfold tS
                  rw [if_pos ⟨rfl, by (try dsimp only); omega⟩, e4]
                have eF : tF (A 18) (F 5) (0, F 6) = 2 := by
                  unfold tF
                  rw [if_pos ⟨rfl, by (try dsimp only); omega⟩, e2]
                have eG : tG (A 18) (F 5) (0, F 6) = nx (A 18) (F 5) (a75) := by
                  unfold tG
                  rw [e2]
                have eH : tH (A 18) (F 5) (0, F 6) = v77 := by
                  unfold tH
                  rw [e4]
                refine ⟨eS, fun _ => ⟨?_, .inr ⟨?_, ?_⟩⟩⟩
                · rw [eF, ← ex, rd_wr_s (by omega) (by (try simp only [wr_len]); omega)]
                  decide
                · rw [eG, ← ex, rd_wr_s (by omega) (by (try simp only [wr_len]); omega)]
                · rw [eH, ← ex, rd_wr_s (by omega) (by (try simp only [wr_len]); omega)]
              · refine R_s (P := True) (f' := (82, [some (vR 17), some (vR 56), some (vI x), some (vI (nx (A 18) (F 5) (a75)))], [vI 0], LAY (u (u (u A 64 (A 64)) 62 (wr (A 62) x 3)) 63 (wr (A 63) x (nx (A 18) (F 5) (a75)))) (u (u F 6 a77) 7 v77), 0, 0)) hc44 1 rfl trivial ?_
                refine R_retz hc44 rfl rfl (Or.inl rfl) ⟨0, wr (A 62) x 3, wr (A 63) x (nx (A 18) (F 5) (a75)), A 64, a77, v77, rfl, rfl, (by (try simp only [wr_len]); omega), (by (try simp only [wr_len]); omega), (by (try simp only [wr_len]); omega), by decide, by omega, by first | omega | (have := nx_in (l := A 18) (n := F 5) (a := F 6) (by omega); omega), fun q hq => by rw [rd_wr_n (by omega) (by omega) (by omega)], fun q hq => by rw [rd_wr_n (by omega) (by omega) (by omega)], fun _ _ => rfl, ?_, fun z => absurd z (by decide)⟩
                have ehw65 : b65 = 1 := by omega
                rw [ehw65] at hw65
                have hw65n : wD (A 18) (F 5) IFF (0, F 6) = (0, a65) := hw65
                have ehw75 : b75 = 1 := by omega
                rw [ehw75] at hw75
                have hw75n : wD (A 18) (F 5) ALIVE (0, a65) = (0, a75) := hw75
                have ehw77 : b77 = 0 := by omega
                rw [ehw77] at hw77
                have hw77n : dG (A 18) (F 5) 4 (0, a75 + 1) = ((1, a77), v77) := hw77
                have e2 : t2 (A 18) (F 5) (0, F 6) = ((0, a75), 2) := by
                  unfold t2
                  rw [hw65n]
                  rw [if_pos rfl]
                  unfold fD
                  (try dsimp only)
                  rw [if_pos (by omega), hw75n]
                have e3 : t3 (A 18) (F 5) (0, F 6) = (0, a75 + 1) := by
                  unfold t3
                  rw [e2]
                  rw [if_pos ⟨rfl, by (try dsimp only); omega⟩]
                have e4 : dG (A 18) (F 5) 4 (t3 (A 18) (F 5) (0, F 6)) = ((1, a77), v77) := by
                  rw [e3]
                  exact hw77n
                have eS : tS (A 18) (F 5) (0, F 6) = (1, a77) := by
                  unfold tS
                  rw [if_pos ⟨rfl, by (try dsimp only); omega⟩, e4]
                exact eS
            · refine R_s (P := True) (f' := (51, [some (vR 17), some (vR 56), some (vI x), some (vI (nx (A 18) (F 5) (a75)))], [vI 62, vI (nx (A 18) (F 5) (a75))], LAY (u (u (u A 63 (A 63)) 64 (A 64)) 62 (wr (A 62) x 3)) (u (u F 7 (F 7)) 6 a75), 0, 0)) hc44 2 rfl trivial ?_
              refine R_ic (t := 56) hc44 rfl rfl (fun (c15 : nx (A 18) (F 5) (a75) = 62) => ?_) (fun (c15 : ¬ (nx (A 18) (F 5) (a75) = 62)) => ?_)
              · refine R_s (P := (0 ≤ x ∧ x < ((A 63).length : Int)) ∧ inI (a75 + 1) ∧ True) (f' := (75, [some (vR 17), some (vR 56), some (vI x), some (vI (nx (A 18) (F 5) (a75)))], [vI 4, vR 17], LAY (u (u (u A 64 (A 64)) 62 (wr (A 62) x 3)) 63 (wr (A 63) x (nx (A 18) (F 5) (a75)))) (u (u F 7 (F 7)) 6 (a75 + 1)), 0, 0)) hc44 13 rfl ⟨⟨by omega, by omega⟩, ⟨by omega, by omega⟩, trivial⟩ ?_
                refine R_cv hc44 rfl rfl (l_numb (A := (u (u (u A 64 (A 64)) 62 (wr (A 62) x 3)) 63 (wr (A 63) x (nx (A 18) (F 5) (a75))))) (F := (u (u F 7 (F 7)) 6 (a75 + 1))) (LENS_u (LENS_u (LENS_u hL (by show (A 64).length = (A 64).length; omega)) (by show (wr (A 62) x 3).length = (A 62).length; simp only [wr_len])) (by show (wr (A 63) x (nx (A 18) (F 5) (a75))).length = (A 63).length; simp only [wr_len])) h5 ⟨by (show 0 ≤ a75 + 1); omega, by (have := nx_in (l := A 18) (n := F 5) (a := a75) (by omega)); (show a75 + 1 ≤ F 5); omega⟩ (kk := 4) (by decide) rfl) (fun r G9 hp9 => ?_)
                obtain ⟨b78, a78, v78, rfl, rfl, hb78, hw78, p78, q78, w78⟩ := hp9
                have p78 : 0 ≤ a78 := p78
                have q78 : a78 ≤ F 5 := q78
                refine R_s (f' := (78, [some (vR 17), some (vR 56), some (vI x), some (vI (nx (A 18) (F 5) (a75)))], [vI b78], LAY (u (u (u A 64 (A 64)) 62 (wr (A 62) x 3)) 63 (wr (A 63) x (nx (A 18) (F 5) (a75)))) (u (u F 6 a78) 7 v78), 0, 0)) hc44 0 rfl trivial ?_
                refine R_if (t := 83) hc44 rfl rfl (fun (c16 : ¬ b78 = 0) => ?_) (fun (c16 : ¬ (¬ b78 = 0)) => ?_)
                · refine R_s (P := (0 ≤ x ∧ x < ((A 64).length : Int)) ∧ True) (f' := (94, [some (vR 17), some (vR 56), some (vI x), some (vI (nx (A 18) (F 5) (a75)))], [vI 1], LAY (u (u (u A 62 (wr (A 62) x 3)) 63 (wr (A 63) x (nx (A 18) (F 5) (a75)))) 64 (wr (A 64) x v78)) (u (u F 6 a78) 7 v78), 0, 0)) hc44 7 rfl ⟨⟨by omega, by omega⟩, trivial⟩ ?_
                  refine R_retz hc44 rfl rfl (Or.inr rfl) ⟨1, wr (A 62) x 3, wr (A 63) x (nx (A 18) (F 5) (a75)), wr (A 64) x v78, a78, v78, rfl, rfl, (by (try simp only [wr_len]); omega), (by (try simp only [wr_len]); omega), (by (try simp only [wr_len]); omega), by decide, by omega, by first | omega | (have := nx_in (l := A 18) (n := F 5) (a := F 6) (by omega); omega), fun q hq => by rw [rd_wr_n (by omega) (by omega) (by omega)], fun q hq => by rw [rd_wr_n (by omega) (by omega) (by omega)], fun q hq => by rw [rd_wr_n (by omega) (by omega) (by omega)], ?_⟩
                  have ehw65 : b65 = 1 := by omega
                  rw [ehw65] at hw65
                  have hw65n : wD (A 18) (F 5) IFF (0, F 6) = (0, a65) := hw65
                  have ehw75 : b75 = 1 := by omega
                  rw [ehw75] at hw75
                  have hw75n : wD (A 18) (F 5) ALIVE (0, a65) = (0, a75) := hw75
                  have ehw78 : b78 = 1 := by omega
                  rw [ehw78] at hw78
                  have hw78n : dG (A 18) (F 5) 4 (0, a75 + 1) = ((0, a78), v78) := hw78
                  have e2 : t2 (A 18) (F 5) (0, F 6) = ((0, a75), 2) := by
                    unfold t2
                    rw [hw65n]
                    rw [if_pos rfl]
                    unfold fD
                    (try dsimp only)
                    rw [if_pos (by omega), hw75n]
                  have e3 : t3 (A 18) (F 5) (0, F 6) = (0, a75 + 1) := by
                    unfold t3
                    rw [e2]
                    rw [if_pos ⟨rfl, by (try dsimp only); omega⟩]
                  have e4 : dG (A 18) (F 5) 4 (t3 (A 18) (F 5) (0, F 6)) = ((0, a78), v78) := by
                    rw [e3]
                    exact hw78n
                  have eS : tS (A 18) (F 5) (0, F 6) = (0, a78) := by
                    unfold tS
                    rw [if_pos ⟨rfl, by (try dsimp only); omega⟩, e4]
                  have eF : tF (A 18) (F 5) (0, F 6) = 2 := by
                    unfold tF
                    rw [if_pos ⟨rfl, by (try dsimp only); omega⟩, e2]
                  have eG : tG (A 18) (F 5) (0, F 6) = nx (A 18) (F 5) (a75) := by
                    unfold tG
                    rw [e2]
                  have eH : tH (A 18) (F 5) (0, F 6) = v78 := by
                    unfold tH
                    rw [e4]
                  refine ⟨eS, fun _ => ⟨?_, .inr ⟨?_, ?_⟩⟩⟩
                  · rw [eF, ← ex, rd_wr_s (by omega) (by (try simp only [wr_len]); omega)]
                    decide
                  · rw [eG, ← ex, rd_wr_s (by omega) (by (try simp only [wr_len]); omega)]
                  · rw [eH, ← ex, rd_wr_s (by omega) (by (try simp only [wr_len]); omega)]
                · refine R_s (P := True) (f' := (82, [some (vR 17), some (vR 56), some (vI x), some (vI (nx (A 18) (F 5) (a75)))], [vI 0], LAY (u (u (u A 64 (A 64)) 62 (wr (A 62) x 3)) 63 (wr (A 63) x (nx (A 18) (F 5) (a75)))) (u (u F 6 a78) 7 v78), 0, 0)) hc44 1 rfl trivial ?_
                  refine R_retz hc44 rfl rfl (Or.inl rfl) ⟨0, wr (A 62) x 3, wr (A 63) x (nx (A 18) (F 5) (a75)), A 64, a78, v78, rfl, rfl, (by (try simp only [wr_len]); omega), (by (try simp only [wr_len]); omega), (by (try simp only [wr_len]); omega), by decide, by omega, by first | omega | (have := nx_in (l := A 18) (n := F 5) (a := F 6) (by omega); omega), fun q hq => by rw [rd_wr_n (by omega) (by omega) (by omega)], fun q hq => by rw [rd_wr_n (by omega) (by omega) (by omega)], fun _ _ => rfl, ?_, fun z => absurd z (by decide)⟩
                  have ehw65 : b65 = 1 := by omega
                  rw [ehw65] at hw65
                  have hw65n : wD (A 18) (F 5) IFF (0, F 6) = (0, a65) := hw65
                  have ehw75 : b75 = 1 := by omega
                  rw [ehw75] at hw75
                  have hw75n : wD (A 18) (F 5) ALIVE (0, a65) = (0, a75) := hw75
                  have ehw78 : b78 = 0 := by omega
                  rw [ehw78] at hw78
                  have hw78n : dG (A 18) (F 5) 4 (0, a75 + 1) = ((1, a78), v78) := hw78
                  have e2 : t2 (A 18) (F 5) (0, F 6) = ((0, a75), 2) := by
                    unfold t2
                    rw [hw65n]
                    rw [if_pos rfl]
                    unfold fD
                    (try dsimp only)
                    rw [if_pos (by omega), hw75n]
                  have e3 : t3 (A 18) (F 5) (0, F 6) = (0, a75 + 1) := by
                    unfold t3
                    rw [e2]
                    rw [if_pos ⟨rfl, by (try dsimp only); omega⟩]
                  have e4 : dG (A 18) (F 5) 4 (t3 (A 18) (F 5) (0, F 6)) = ((1, a78), v78) := by
                    rw [e3]
                    exact hw78n
                  have eS : tS (A 18) (F 5) (0, F 6) = (1, a78) := by
                    unfold tS
                    rw [if_pos ⟨rfl, by (try dsimp only); omega⟩, e4]
                  exact eS
              · refine R_s (P := True) (f' := (55, [some (vR 17), some (vR 56), some (vI x), some (vI (nx (A 18) (F 5) (a75)))], [vI 0], LAY (u (u (u A 63 (A 63)) 64 (A 64)) 62 (wr (A 62) x 3)) (u (u F 7 (F 7)) 6 a75), 0, 0)) hc44 1 rfl trivial ?_
                refine R_retz hc44 rfl rfl (Or.inl rfl) ⟨0, wr (A 62) x 3, A 63, A 64, a75, F 7, rfl, rfl, (by (try simp only [wr_len]); omega), (by (try simp only [wr_len]); omega), (by (try simp only [wr_len]); omega), by decide, by omega, by first | omega | (have := nx_in (l := A 18) (n := F 5) (a := F 6) (by omega); omega), fun q hq => by rw [rd_wr_n (by omega) (by omega) (by omega)], fun _ _ => rfl, fun _ _ => rfl, ?_, fun z => absurd z (by decide)⟩
                have ehw65 : b65 = 1 := by omega
                rw [ehw65] at hw65
                have hw65n : wD (A 18) (F 5) IFF (0, F 6) = (0, a65) := hw65
                have ehw75 : b75 = 1 := by omega
                rw [ehw75] at hw75
                have hw75n : wD (A 18) (F 5) ALIVE (0, a65) = (0, a75) := hw75
                have e2 : t2 (A 18) (F 5) (0, F 6) = ((0, a75), 2) := by
                  unfold t2
                  rw [hw65n]
                  rw [if_pos rfl]
                  unfold fD
                  (try dsimp only)
                  rw [if_pos (by omega), hw75n]
                have e3 : t3 (A 18) (F 5) (0, F 6) = (1, a75) := by
                  unfold t3
                  rw [e2]
                  rw [if_neg (fun z => by have := z.2; (try dsimp only at this); omega)]
                have e4 : dG (A 18) (F 5) 4 (t3 (A 18) (F 5) (0, F 6)) = ((1, a75), 0) := by rw [e3, dG_f]
                have eS : tS (A 18) (F 5) (0, F 6) = (1, a75) := by
                  unfold tS
                  rw [if_pos ⟨rfl, by (try dsimp only); omega⟩, e4]
                exact eS
        · refine R_s (P := True) (f' := (30, [some (vR 17), some (vR 56), some (vI x), none], [vI 0], LAY (u (u (u A 63 (A 63)) 64 (A 64)) 62 (wr (A 62) x 3)) (u (u F 7 (F 7)) 6 a75), 0, 0)) hc44 1 rfl trivial ?_
          refine R_retz hc44 rfl rfl (Or.inl rfl) ⟨0, wr (A 62) x 3, A 63, A 64, a75, F 7, rfl, rfl, (by (try simp only [wr_len]); omega), (by (try simp only [wr_len]); omega), (by (try simp only [wr_len]); omega), by decide, by omega, by first | omega | (have := nx_in (l := A 18) (n := F 5) (a := F 6) (by omega); omega), fun q hq => by rw [rd_wr_n (by omega) (by omega) (by omega)], fun _ _ => rfl, fun _ _ => rfl, ?_, fun z => absurd z (by decide)⟩
          have ehw65 : b65 = 1 := by omega
          rw [ehw65] at hw65
          have hw65n : wD (A 18) (F 5) IFF (0, F 6) = (0, a65) := hw65
          have ehw75 : b75 = 0 := by omega
          rw [ehw75] at hw75
          have hw75n : wD (A 18) (F 5) ALIVE (0, a65) = (1, a75) := hw75
          have e2 : t2 (A 18) (F 5) (0, F 6) = ((1, a75), 2) := by
            unfold t2
            rw [hw65n]
            rw [if_pos rfl]
            unfold fD
            (try dsimp only)
            rw [if_pos (by omega), hw75n]
          have e3 : t3 (A 18) (F 5) (0, F 6) = (1, a75) := by
            unfold t3
            rw [e2]
            rw [if_neg (fun z => absurd (show (1 : Int) = 0 from z.1) (by decide))]
          have e4 : dG (A 18) (F 5) 4 (t3 (A 18) (F 5) (0, F 6)) = ((1, a75), 0) := by rw [e3, dG_f]
          have eS : tS (A 18) (F 5) (0, F 6) = (1, a75) := by
            unfold tS
            rw [if_pos ⟨rfl, by (try dsimp only); omega⟩, e4]
          exact eS
  · refine R_s (P := True) (f' := (10, [some (vR 17), some (vR 56), some (vI x), none], [vI 1], LAY (u (u (u A 62 (A 62)) 63 (A 63)) 64 (A 64)) (u (u F 6 (F 6)) 7 (F 7)), 0, 0)) hc44 1 rfl trivial ?_
    refine R_retz hc44 rfl rfl (Or.inr rfl) ⟨1, A 62, A 63, A 64, F 6, F 7, rfl, rfl, (by (try simp only [wr_len]); omega), (by (try simp only [wr_len]); omega), (by (try simp only [wr_len]); omega), by decide, by omega, by first | omega | (have := nx_in (l := A 18) (n := F 5) (a := F 6) (by omega); omega), fun _ _ => rfl, fun _ _ => rfl, fun _ _ => rfl, ?_, fun _ => ⟨?_, .inl ?_⟩⟩
    · unfold tS
      rw [if_neg (fun z => by have := z.2; (try dsimp only at this); omega)]
      rfl
    all_goals have e9 : tF (A 18) (F 5) (0, F 6) = -1 := by (unfold tF; rw [if_neg (fun z => by have := z.2; (try dsimp only at this); omega)])
    · rw [e9]; omega
    · exact e9

theorem l_rrest4 {A : Nat → List Int} {F : Nat → Int} (hL : LENS A) (h5 : 0 ≤ F 5 ∧ F 5 ≤ 120) (h6 : 0 ≤ F 6 ∧ F 6 ≤ F 5) {x : Int} {i : Nat} (ex : x = (i : Int)) (hi : i < 6) : R 43 (0, L0 43 [vR 17, vR 56, vI x], [], LAY A F, 0, 0) (fun r G => ∃ (c : Int) (q0 q3 : List Int) (a v : Int), r = some (vI c) ∧ G = LAY (u (u A 57 q0) 60 q3) (u (u F 6 a) 7 v) ∧ q0.length = 6 ∧ q3.length = 6 ∧ (c = 0 ∨ c = 1) ∧ 0 ≤ a ∧ a ≤ F 5 ∧ (∀ q : Nat, q ≠ i → rd q0 q = rd (A 57) q) ∧ (∀ q : Nat, q ≠ i → rd q3 q = rd (A 60) q) ∧ (hS (A 18) (F 5) (wD (A 18) (F 5) REST (0, F 6))).1 = (1 - c, a) ∧ rd q0 i = 3 ∧ (c = 1 → rd q3 i = (hS (A 18) (F 5) (wD (A 18) (F 5) REST (0, F 6))).2)) := by
  have d0 : (A 57).length = 6 := hL 57 (by decide)
  have d1 : (A 58).length = 6 := hL 58 (by decide)
  have d2 : (A 59).length = 6 := hL 59 (by decide)
  have d3 : (A 60).length = 6 := hL 60 (by decide)
  have d4 : (A 61).length = 6 := hL 61 (by decide)
  have d5 : (A 62).length = 6 := hL 62 (by decide)
  have d6 : (A 63).length = 6 := hL 63 (by decide)
  have d7 : (A 64).length = 6 := hL 64 (by decide)
  refine R_s (P := True) (f' := (0, [some (vR 17), some (vR 56), some (vI x)], [], LAY (u (u A 57 (A 57)) 60 (A 60)) (u (u F 6 (F 6)) 7 (F 7)), 0, 0)) hc43 0 rfl trivial ?_
  refine R_s (P := (0 ≤ x ∧ x < ((A 57).length : Int)) ∧ True) (f' := (10, [some (vR 17), some (vR 56), some (vI x)], [vS 12, vR 17], LAY (u (u A 60 (A 60)) 57 (wr (A 57) x 3)) (u (u F 6 (F 6)) 7 (F 7)), 0, 0)) hc43 7 rfl ⟨⟨by omega, by omega⟩, trivial⟩ ?_
  refine R_cv hc43 rfl rfl (l_word12 (A := (u (u A 60 (A 60)) 57 (wr (A 57) x 3))) (F := (u (u F 6 (F 6)) 7 (F 7))) (LENS_u (LENS_u hL (by show (A 60).length = (A 60).length; omega)) (by show (wr (A 57) x 3).length = (A 57).length; simp only [wr_len])) h5 ⟨by (show 0 ≤ F 6); omega, by (show F 6 ≤ F 5); omega⟩) (fun r G9 hp9 => ?_)
  obtain ⟨b79, a79, rfl, rfl, hb79, hw79, p79, q79⟩ := hp9
  have p79 : 0 ≤ a79 := p79
  have q79 : a79 ≤ F 5 := q79
  refine R_s (f' := (13, [some (vR 17), some (vR 56), some (vI x)], [vI b79], LAY (u (u A 60 (A 60)) 57 (wr (A 57) x 3)) (u (u F 7 (F 7)) 6 a79), 0, 0)) hc43 0 rfl trivial ?_
  refine R_if (t := 29) hc43 rfl rfl (fun (c1 : b79 = 0) => ?_) (fun (c1 : ¬ (b79 = 0)) => ?_)
  · refine R_s (P := True) (f' := (30, [some (vR 17), some (vR 56), some (vI x)], [vI 0], LAY (u (u A 60 (A 60)) 57 (wr (A 57) x 3)) (u (u F 7 (F 7)) 6 a79), 0, 0)) hc43 1 rfl trivial ?_
    refine R_retz hc43 rfl rfl (Or.inl rfl) ⟨0, wr (A 57) x 3, A 60, a79, F 7, rfl, rfl, (by (try simp only [wr_len]); omega), (by (try simp only [wr_len]); omega), by decide, by omega, by omega, fun q hq => by rw [rd_wr_n (by omega) (by omega) (by omega)], fun _ _ => rfl, ?_⟩
    have ehw79 : b79 = 0 := by omega
    rw [ehw79] at hw79
    have hw79n : wD (A 18) (F 5) REST (0, F 6) = (1, a79) := hw79
    have eS : hS (A 18) (F 5) (wD (A 18) (F 5) REST (0, F 6)) = ((1, a79), 0) := by rw [hw79n, hS_f]
    exact ⟨by rw [eS]; rfl, by rw [← ex]; exact rd_wr_s (by omega) (by omega), fun z => absurd z (by decide)⟩
  · refine R_s (P := True) (f' := (19, [some (vR 17), some (vR 56), some (vI x)], [vI x, vR 56, vR 17], LAY (u (u A 60 (A 60)) 57 (wr (A 57) x 3)) (u (u F 7 (F 7)) 6 a79), 0, 0)) hc43 3 rfl trivial ?_
    refine R_cv hc43 rfl rfl (l_rhouse4 (A := (u (u A 60 (A 60)) 57 (wr (A 57) x 3))) (F := (u (u F 7 (F 7)) 6 a79)) (LENS_u (LENS_u hL (by show (A 60).length = (A 60).length; omega)) (by show (wr (A 57) x 3).length = (A 57).length; simp only [wr_len])) h5 ⟨by (show 0 ≤ a79); omega, by (show a79 ≤ F 5); omega⟩ ex hi) (fun r G9 hp9 => ?_)
    obtain ⟨b80, h3_80, a80, v80, rfl, rfl, l80, hb80, p80, q80, kp80, h80, hw80, hv80⟩ := hp9
    have q80 : a80 ≤ F 5 := q80
    have kp80 : ∀ q : Nat, q ≠ i → rd h3_80 q = rd (A 60) q := kp80
    refine R_s (f' := (22, [some (vR 17), some (vR 56), some (vI x)], [vI b80], LAY (u (u A 57 (wr (A 57) x 3)) 60 h3_80) (u (u F 6 a80) 7 v80), 0, 0)) hc43 0 rfl trivial ?_
    refine R_if (t := 29) hc43 rfl rfl (fun (c2 : b80 = 0) => ?_) (fun (c2 : ¬ (b80 = 0)) => ?_)
    · refine R_s (P := True) (f' := (30, [some (vR 17), some (vR 56), some (vI x)], [vI 0], LAY (u (u A 57 (wr (A 57) x 3)) 60 h3_80) (u (u F 6 a80) 7 v80), 0, 0)) hc43 1 rfl trivial ?_
      refine R_retz hc43 rfl rfl (Or.inl rfl) ⟨0, wr (A 57) x 3, h3_80, a80, v80, rfl, rfl, (by (try simp only [wr_len]); omega), (by (try simp only [wr_len]); omega), by decide, by omega, by omega, fun q hq => by rw [rd_wr_n (by omega) (by omega) (by omega)], fun q hq => by rw [kp80 q hq], ?_⟩
      have ehw79 : b79 = 1 := by omega
      rw [ehw79] at hw79
      have hw79n : wD (A 18) (F 5) REST (0, F 6) = (0, a79) := hw79
      have ehw80 : b80 = 0 := by omega
      rw [ehw80] at hw80
      have hw80n : hS (A 18) (F 5) (0, a79) = ((1, a80), h80) := hw80
      have eS : hS (A 18) (F 5) (wD (A 18) (F 5) REST (0, F 6)) = ((1, a80), h80) := by rw [hw79n, hw80n]
      exact ⟨by rw [eS]; rfl, by rw [← ex]; exact rd_wr_s (by omega) (by omega), fun z => absurd z (by decide)⟩
    · refine R_s (P := True) (f' := (30, [some (vR 17), some (vR 56), some (vI x)], [vI 1], LAY (u (u A 57 (wr (A 57) x 3)) 60 h3_80) (u (u F 6 a80) 7 v80), 0, 0)) hc43 2 rfl trivial ?_
      refine R_retz hc43 rfl rfl (Or.inr rfl) ⟨1, wr (A 57) x 3, h3_80, a80, v80, rfl, rfl, (by (try simp only [wr_len]); omega), (by (try simp only [wr_len]); omega), by decide, by omega, by omega, fun q hq => by rw [rd_wr_n (by omega) (by omega) (by omega)], fun q hq => by rw [kp80 q hq], ?_⟩
      have ehw79 : b79 = 1 := by omega
      rw [ehw79] at hw79
      have hw79n : wD (A 18) (F 5) REST (0, F 6) = (0, a79) := hw79
      have ehw80 : b80 = 1 := by omega
      rw [ehw80] at hw80
      have hw80n : hS (A 18) (F 5) (0, a79) = ((0, a80), h80) := hw80
      have eS : hS (A 18) (F 5) (wD (A 18) (F 5) REST (0, F 6)) = ((0, a80), h80) := by rw [hw79n, hw80n]
      exact ⟨by rw [eS]; rfl, by rw [← ex]; exact rd_wr_s (by omega) (by omega), fun _ => by rw [eS]; exact hv80 (by omega)⟩

theorem l_rhouse5 {A : Nat → List Int} {F : Nat → Int} (hL : LENS A) (h5 : 0 ≤ F 5 ∧ F 5 ≤ 120) (h6 : 0 ≤ F 6 ∧ F 6 ≤ F 5) {x : Int} {i : Nat} (ex : x = (i : Int)) (hi : i < 6) : R 46 (0, L0 46 [vR 17, vR 65, vI x], [], LAY A F, 0, 0) (fun r G => ∃ (c : Int) (q3 : List Int) (a v : Int), r = some (vI c) ∧ G = LAY (u A 69 q3) (u (u F 6 a) 7 v) ∧ q3.length = 6 ∧ (c = 0 ∨ c = 1) ∧ 0 ≤ a ∧ a ≤ F 5 ∧ (∀ q : Nat, q ≠ i → rd q3 q = rd (A 69) q) ∧ ∃ h, hS (A 18) (F 5) (0, F 6) = ((1 - c, a), h) ∧ (c = 1 → rd q3 i = h)) := by
  have d0 : (A 66).length = 6 := hL 66 (by decide)
  have d1 : (A 67).length = 6 := hL 67 (by decide)
  have d2 : (A 68).length = 6 := hL 68 (by decide)
  have d3 : (A 69).length = 6 := hL 69 (by decide)
  have d4 : (A 70).length = 6 := hL 70 (by decide)
  have d5 : (A 71).length = 6 := hL 71 (by decide)
  have d6 : (A 72).length = 6 := hL 72 (by decide)
  have d7 : (A 73).length = 6 := hL 73 (by decide)
  refine R_s (P := True) (f' := (0, [some (vR 17), some (vR 65), some (vI x), none], [], LAY (u A 69 (A 69)) (u (u F 6 (F 6)) 7 (F 7)), 0, 0)) hc46 0 rfl trivial ?_
  refine R_s (P := True) (f' := (1, [some (vR 17), some (vR 65), some (vI x), none], [vR 17], LAY (u A 69 (A 69)) (u (u F 6 (F 6)) 7 (F 7)), 0, 0)) hc46 1 rfl trivial ?_
  refine R_cv hc46 rfl rfl (l_next (A := (u A 69 (A 69))) (F := (u (u F 6 (F 6)) 7 (F 7))) (LENS_u hL (by show (A 69).length = (A 69).length; omega)) h5 ⟨by (show 0 ≤ F 6); omega, by (show F 6 ≤ F 5); omega⟩) (fun r G9 hp9 => ?_)
  obtain ⟨e1, rfl⟩ := hp9
  have e2 : r = some (vI (nx (A 18) (F 5) (F 6))) := e1
  clear e1
  subst e2
  refine R_s (f' := (4, [some (vR 17), some (vR 65), some (vI x), none], [vI (nx (A 18) (F 5) (F 6))], LAY (u A 69 (A 69)) (u (u F 6 (F 6)) 7 (F 7)), 0, 0)) hc46 0 rfl trivial ?_
  refine R_s (P := True) (f' := (8, [some (vR 17), some (vR 65), some (vI x), some (vI (nx (A 18) (F 5) (F 6)))], [vI 97, vI (nx (A 18) (F 5) (F 6))], LAY (u A 69 (A 69)) (u (u F 6 (F 6)) 7 (F 7)), 0, 0)) hc46 3 rfl trivial ?_
  refine R_ic (t := 17) hc46 rfl rfl (fun (c1 : nx (A 18) (F 5) (F 6) < 97) => ?_) (fun (c1 : ¬ (nx (A 18) (F 5) (F 6) < 97)) => ?_)
  · refine R_s (P := True) (f' := (18, [some (vR 17), some (vR 65), some (vI x), some (vI (nx (A 18) (F 5) (F 6)))], [vI 0], LAY (u A 69 (A 69)) (u (u F 6 (F 6)) 7 (F 7)), 0, 0)) hc46 1 rfl trivial ?_
    refine R_retz hc46 rfl rfl (Or.inl rfl) ⟨0, A 69, F 6, F 7, rfl, rfl, (by (try simp only [wr_len]); omega), by decide, by omega, by omega, fun _ _ => rfl, 0, ?_, fun z => absurd z (by decide)⟩
    unfold hS
    (try dsimp only)
    rw [if_neg (fun z => by omega)]
    rfl
  · refine R_s (P := True) (f' := (14, [some (vR 17), some (vR 65), some (vI x), some (vI (nx (A 18) (F 5) (F 6)))], [vI 105, vI (nx (A 18) (F 5) (F 6))], LAY (u A 69 (A 69)) (u (u F 6 (F 6)) 7 (F 7)), 0, 0)) hc46 2 rfl trivial ?_
    refine R_ic (t := 19) hc46 rfl rfl (fun (c2 : nx (A 18) (F 5) (F 6) < 105) => ?_) (fun (c2 : ¬ (nx (A 18) (F 5) (F 6) < 105)) => ?_)
    · refine R_s (P := inI ((nx (A 18) (F 5) (F 6)) - 97) ∧ (0 ≤ x ∧ x < ((A 69).length : Int)) ∧ inI ((F 6) + 1) ∧ True) (f' := (40, [some (vR 17), some (vR 65), some (vI x), some (vI (nx (A 18) (F 5) (F 6)))], [vI 1], LAY (u A 69 (wr (A 69) x ((nx (A 18) (F 5) (F 6)) - 97))) (u (u F 7 (F 7)) 6 ((F 6) + 1)), 0, 0)) hc46 14 rfl ⟨⟨by omega, by omega⟩, ⟨by omega, by omega⟩, ⟨by omega, by omega⟩, trivial⟩ ?_
      refine R_retz hc46 rfl rfl (Or.inr rfl) ⟨1, wr (A 69) x ((nx (A 18) (F 5) (F 6)) - 97), (F 6) + 1, F 7, rfl, rfl, (by (try simp only [wr_len]); omega), by decide, by omega, by have := nx_in (l := A 18) (n := F 5) (a := F 6) (by omega); omega, fun q hq => by rw [rd_wr_n (by omega) (by omega) (by omega)], nx (A 18) (F 5) (F 6) - 97, ?_, fun _ => by rw [← ex]; exact rd_wr_s (by omega) (by omega)⟩
      unfold hS
      (try dsimp only)
      rw [if_pos ⟨rfl, by omega, by omega⟩]
      rfl
    · refine R_s (P := True) (f' := (18, [some (vR 17), some (vR 65), some (vI x), some (vI (nx (A 18) (F 5) (F 6)))], [vI 0], LAY (u A 69 (A 69)) (u (u F 6 (F 6)) 7 (F 7)), 0, 0)) hc46 1 rfl trivial ?_
      refine R_retz hc46 rfl rfl (Or.inl rfl) ⟨0, A 69, F 6, F 7, rfl, rfl, (by (try simp only [wr_len]); omega), by decide, by omega, by omega, fun _ _ => rfl, 0, ?_, fun z => absurd z (by decide)⟩
      unfold hS
      (try dsimp only)
      rw [if_neg (fun z => by omega)]
      rfl

theorem l_rtest5 {A : Nat → List Int} {F : Nat → Int} (hL : LENS A) (h5 : 0 ≤ F 5 ∧ F 5 ≤ 120) (h6 : 0 ≤ F 6 ∧ F 6 ≤ F 5) {x : Int} {i : Nat} (ex : x = (i : Int)) (hi : i < 6) (hf0 : rd (A 71) i = 0) : R 44 (0, L0 44 [vR 17, vR 65, vI x], [], LAY A F, 0, 0) (fun r G => ∃ (c : Int) (q5 q6 q7 : List Int) (a v : Int), r = some (vI c) ∧ G = LAY (u (u (u A 71 q5) 72 q6) 73 q7) (u (u F 6 a) 7 v) ∧ q5.length = 6 ∧ q6.length = 6 ∧ q7.length = 6 ∧ (c = 0 ∨ c = 1) ∧ 0 ≤ a ∧ a ≤ F 5 ∧ (∀ q : Nat, q ≠ i → rd q5 q = rd (A 71) q) ∧ (∀ q : Nat, q ≠ i → rd q6 q = rd (A 72) q) ∧ (∀ q : Nat, q ≠ i → rd q7 q = rd (A 73) q) ∧ tS (A 18) (F 5) (0, F 6) = (1 - c, a) ∧ (c = 1 → rd q5 i = tF (A 18) (F 5) (0, F 6) + 1 ∧ (tF (A 18) (F 5) (0, F 6) = -1 ∨ (rd q6 i = tG (A 18) (F 5) (0, F 6) ∧ rd q7 i = tH (A 18) (F 5) (0, F 6))))) := by
  have d0 : (A 66).length = 6 := hL 66 (by decide)
  have d1 : (A 67).length = 6 := hL 67 (by decide)
  have d2 : (A 68).length = 6 := hL 68 (by decide)
  have d3 : (A 69).length = 6 := hL 69 (by decide)
  have d4 : (A 70).length = 6 := hL 70 (by decide)
  have d5 : (A 71).length = 6 := hL 71 (by decide)
  have d6 : (A 72).length = 6 := hL 72 (by decide)
  have d7 : (A 73).length = 6 := hL 73 (by decide)
  refine R_s (P := True) (f' := (0, [some (vR 17), some (vR 65), some (vI x), none], [], LAY (u (u (u A 71 (A 71)) 72 (A 72)) 73 (A 73)) (u (u F 6 (F 6)) 7 (F 7)), 0, 0)) hc44 0 rfl trivial ?_
  refine R_s (P := True) (f' := (1, [some (vR 17), some (vR 65), some (vI x), none], [vR 17], LAY (u (u (u A 71 (A 71)) 72 (A 72)) 73 (A 73)) (u (u F 6 (F 6)) 7 (F 7)), 0, 0)) hc44 1 rfl trivial ?_
  refine R_cv hc44 rfl rfl (l_next (A := (u (u (u A 71 (A 71)) 72 (A 72)) 73 (A 73))) (F := (u (u F 6 (F 6)) 7 (F 7))) (LENS_u (LENS_u (LENS_u hL (by show (A 71).length = (A 71).length; omega)) (by show (A 72).length = (A 72).length; omega)) (by show (A 73).length = (A 73).length; omega)) h5 ⟨by (show 0 ≤ F 6); omega, by (show F 6 ≤ F 5); omega⟩) (fun r G9 hp9 => ?_)
  obtain ⟨e1, rfl⟩ := hp9
  have e2 : r = some (vI (nx (A 18) (F 5) (F 6))) := e1
  clear e1
  subst e2
  refine R_s (f' := (4, [some (vR 17), some (vR 65), some (vI x), none], [vI (nx (A 18) (F 5) (F 6))], LAY (u (u (u A 71 (A 71)) 72 (A 72)) 73 (A 73)) (u (u F 6 (F 6)) 7 (F 7)), 0, 0)) hc44 0 rfl trivial ?_
  refine R_s (P := True) (f' := (6, [some (vR 17), some (vR 65), some (vI x), none], [vI 32, vI (nx (A 18) (F 5) (F 6))], LAY (u (u (u A 71 (A 71)) 72 (A 72)) 73 (A 73)) (u (u F 6 (F 6)) 7 (F 7)), 0, 0)) hc44 1 rfl trivial ?_
  refine R_ic (t := 11) hc44 rfl rfl (fun (c1 : nx (A 18) (F 5) (F 6) = 32) => ?_) (fun (c1 : ¬ (nx (A 18) (F 5) (F 6) = 32)) => ?_)
  · refine R_s (P := True) (f' := (14, [some (vR 17), some (vR 65), some (vI x), none], [vS 2, vR 17], LAY (u (u (u A 71 (A 71)) 72 (A 72)) 73 (A 73)) (u (u F 6 (F 6)) 7 (F 7)), 0, 0)) hc44 2 rfl trivial ?_
    refine R_cv hc44 rfl rfl (l_word2 (A := (u (u (u A 71 (A 71)) 72 (A 72)) 73 (A 73))) (F := (u (u F 6 (F 6)) 7 (F 7))) (LENS_u (LENS_u (LENS_u hL (by show (A 71).length = (A 71).length; omega)) (by show (A 72).length = (A 72).length; omega)) (by show (A 73).length = (A 73).length; omega)) h5 ⟨by (show 0 ≤ F 6); omega, by (show F 6 ≤ F 5); omega⟩) (fun r G9 hp9 => ?_)
    obtain ⟨b81, a81, rfl, rfl, hb81, hw81, p81, q81⟩ := hp9
    have p81 : 0 ≤ a81 := p81
    have q81 : a81 ≤ F 5 := q81
    refine R_s (f' := (17, [some (vR 17), some (vR 65), some (vI x), none], [vI b81], LAY (u (u (u A 71 (A 71)) 72 (A 72)) 73 (A 73)) (u (u F 7 (F 7)) 6 a81), 0, 0)) hc44 0 rfl trivial ?_
    refine R_if (t := 29) hc44 rfl rfl (fun (c2 : b81 = 0) => ?_) (fun (c2 : ¬ (b81 = 0)) => ?_)
    · refine R_s (P := True) (f' := (30, [some (vR 17), some (vR 65), some (vI x), none], [vI 0], LAY (u (u (u A 71 (A 71)) 72 (A 72)) 73 (A 73)) (u (u F 7 (F 7)) 6 a81), 0, 0)) hc44 1 rfl trivial ?_
      refine R_retz hc44 rfl rfl (Or.inl rfl) ⟨0, A 71, A 72, A 73, a81, F 7, rfl, rfl, (by (try simp only [wr_len]); omega), (by (try simp only [wr_len]); omega), (by (try simp only [wr_len]); omega), by decide, by omega, by first | omega | (have := nx_in (l := A 18) (n := F 5) (a := F 6) (by omega); omega), fun _ _ => rfl, fun _ _ => rfl, fun _ _ => rfl, ?_, fun z => absurd z (by decide)⟩
      have ehw81 : b81 = 0 := by omega
      rw [ehw81] at hw81
      have hw81n : wD (A 18) (F 5) IFF (0, F 6) = (1, a81) := hw81
      have e2 : t2 (A 18) (F 5) (0, F 6) = ((1, a81), 0) := by
        unfold t2
        rw [hw81n]
        rw [if_neg (show ¬ (1 : Int) = 0 by decide)]
      have e3 : t3 (A 18) (F 5) (0, F 6) = (1, a81) := by
        unfold t3
        rw [e2]
        rw [if_neg (fun z => absurd (show (1 : Int) = 0 from z.1) (by decide))]
      have e4 : dG (A 18) (F 5) 4 (t3 (A 18) (F 5) (0, F 6)) = ((1, a81), 0) := by rw [e3, dG_f]
      have eS : tS (A 18) (F 5) (0, F 6) = (1, a81) := by
        unfold tS
        rw [if_pos ⟨rfl, by (try dsimp only); omega⟩, e4]
      exact eS
    · refine R_s (P := True) (f' := (23, [some (vR 17), some (vR 65), some (vI x), none], [vI x, vR 65, vR 17], LAY (u (u (u A 71 (A 71)) 72 (A 72)) 73 (A 73)) (u (u F 7 (F 7)) 6 a81), 0, 0)) hc44 3 rfl trivial ?_
      refine R_cv hc44 rfl rfl ?_ (fun r G h => h)
      refine R_s (P := True) (f' := (1, [some (vR 17), some (vR 65), some (vI x), none], [vR 17], LAY (u (u (u A 71 (A 71)) 72 (A 72)) 73 (A 73)) (u (u F 7 (F 7)) 6 a81), 0, 0)) hc45 1 rfl trivial ?_
      refine R_cv hc45 rfl rfl (l_next (A := (u (u (u A 71 (A 71)) 72 (A 72)) 73 (A 73))) (F := (u (u F 7 (F 7)) 6 a81)) (LENS_u (LENS_u (LENS_u hL (by show (A 71).length = (A 71).length; omega)) (by show (A 72).length = (A 72).length; omega)) (by show (A 73).length = (A 73).length; omega)) h5 ⟨by (show 0 ≤ a81); omega, by (show a81 ≤ F 5); omega⟩) (fun r G9 hp9 => ?_)
      obtain ⟨e1, rfl⟩ := hp9
      have e2 : r = some (vI (nx (A 18) (F 5) (a81))) := e1
      clear e1
      subst e2
      refine R_s (f' := (4, [some (vR 17), some (vR 65), some (vI x), none], [vI (nx (A 18) (F 5) (a81))], LAY (u (u (u A 71 (A 71)) 72 (A 72)) 73 (A 73)) (u (u F 7 (F 7)) 6 a81), 0, 0)) hc45 0 rfl trivial ?_
      refine R_s (P := True) (f' := (6, [some (vR 17), some (vR 65), some (vI x), none], [vI 97, vI (nx (A 18) (F 5) (a81))], LAY (u (u (u A 71 (A 71)) 72 (A 72)) 73 (A 73)) (u (u F 7 (F 7)) 6 a81), 0, 0)) hc45 1 rfl trivial ?_
      refine R_ic (t := 23) hc45 rfl rfl (fun (c3 : ¬ nx (A 18) (F 5) (a81) = 97) => ?_) (fun (c3 : ¬ (¬ nx (A 18) (F 5) (a81) = 97)) => ?_)
      · refine R_s (P := True) (f' := (26, [some (vR 17), some (vR 65), some (vI x), none], [vS 4, vR 17], LAY (u (u (u A 71 (A 71)) 72 (A 72)) 73 (A 73)) (u (u F 7 (F 7)) 6 a81), 0, 0)) hc45 2 rfl trivial ?_
        refine R_cv hc45 rfl rfl (l_word4 (A := (u (u (u A 71 (A 71)) 72 (A 72)) 73 (A 73))) (F := (u (u F 7 (F 7)) 6 a81)) (LENS_u (LENS_u (LENS_u hL (by show (A 71).length = (A 71).length; omega)) (by show (A 72).length = (A 72).length; omega)) (by show (A 73).length = (A 73).length; omega)) h5 ⟨by (show 0 ≤ a81); omega, by (show a81 ≤ F 5); omega⟩) (fun r G9 hp9 => ?_)
        obtain ⟨b82, a82, rfl, rfl, hb82, hw82, p82, q82⟩ := hp9
        have p82 : 0 ≤ a82 := p82
        have q82 : a82 ≤ F 5 := q82
        refine R_s (f' := (29, [some (vR 17), some (vR 65), some (vI x), none], [vI b82], LAY (u (u (u A 71 (A 71)) 72 (A 72)) 73 (A 73)) (u (u F 7 (F 7)) 6 a82), 0, 0)) hc45 0 rfl trivial ?_
        refine R_if (t := 34) hc45 rfl rfl (fun (c4 : ¬ b82 = 0) => ?_) (fun (c4 : ¬ (¬ b82 = 0)) => ?_)
        · refine R_s (P := True) (f' := (35, [some (vR 17), some (vR 65), some (vI x), none], [vR 17], LAY (u (u (u A 71 (A 71)) 72 (A 72)) 73 (A 73)) (u (u F 7 (F 7)) 6 a82), 0, 0)) hc45 1 rfl trivial ?_
          refine R_cv hc45 rfl rfl (l_next (A := (u (u (u A 71 (A 71)) 72 (A 72)) 73 (A 73))) (F := (u (u F 7 (F 7)) 6 a82)) (LENS_u (LENS_u (LENS_u hL (by show (A 71).length = (A 71).length; omega)) (by show (A 72).length = (A 72).length; omega)) (by show (A 73).length = (A 73).length; omega)) h5 ⟨by (show 0 ≤ a82); omega, by (show a82 ≤ F 5); omega⟩) (fun r G9 hp9 => ?_)
          obtain ⟨e1, rfl⟩ := hp9
          have e2 : r = some (vI (nx (A 18) (F 5) (a82))) := e1
          clear e1
          subst e2
          refine R_s (f' := (38, [some (vR 17), some (vR 65), some (vI x), none], [vI (nx (A 18) (F 5) (a82))], LAY (u (u (u A 71 (A 71)) 72 (A 72)) 73 (A 73)) (u (u F 7 (F 7)) 6 a82), 0, 0)) hc45 0 rfl trivial ?_
          refine R_s (P := True) (f' := (40, [some (vR 17), some (vR 65), some (vI x), none], [vI 101, vI (nx (A 18) (F 5) (a82))], LAY (u (u (u A 71 (A 71)) 72 (A 72)) 73 (A 73)) (u (u F 7 (F 7)) 6 a82), 0, 0)) hc45 1 rfl trivial ?_
          refine R_ic (t := 47) hc45 rfl rfl (fun (c5 : ¬ nx (A 18) (F 5) (a82) = 101) => ?_) (fun (c5 : ¬ (¬ nx (A 18) (F 5) (a82) = 101)) => ?_)
          · refine R_s (P := True) (f' := (55, [some (vR 17), some (vR 65), some (vI x), some (vI 0)], [vI 0, vI x, vR 71], LAY (u (u (u A 71 (A 71)) 72 (A 72)) 73 (A 73)) (u (u F 7 (F 7)) 6 a82), 0, 0)) hc45 6 rfl trivial ?_
            refine R_if (t := 62) hc45 rfl rfl (fun (_ : 0 = 0) => ?_) (fun (z : ¬ (0 = 0)) => absurd (by decide) z)
            refine R_s (P := (0 ≤ x ∧ x < ((A 71).length : Int)) ∧ True) (f' := (66, [some (vR 17), some (vR 65), some (vI x), some (vI 0)], [vI 0, vR 17], LAY (u (u (u A 72 (A 72)) 73 (A 73)) 71 (wr (A 71) x 2)) (u (u F 7 (F 7)) 6 a82), 0, 0)) hc45 4 rfl ⟨⟨by omega, by omega⟩, trivial⟩ ?_
            refine R_if (t := 74) hc45 rfl rfl (fun (_ : 0 = 0) => ?_) (fun (z : ¬ (0 = 0)) => absurd (by decide) z)
            refine R_s (P := True) (f' := (76, [some (vR 17), some (vR 65), some (vI x), some (vI 0)], [vS 6, vR 17], LAY (u (u (u A 72 (A 72)) 73 (A 73)) 71 (wr (A 71) x 2)) (u (u F 7 (F 7)) 6 a82), 0, 0)) hc45 1 rfl trivial ?_
            refine R_cv hc45 rfl rfl (l_word6 (A := (u (u (u A 72 (A 72)) 73 (A 73)) 71 (wr (A 71) x 2))) (F := (u (u F 7 (F 7)) 6 a82)) (LENS_u (LENS_u (LENS_u hL (by show (A 72).length = (A 72).length; omega)) (by show (A 73).length = (A 73).length; omega)) (by show (wr (A 71) x 2).length = (A 71).length; simp only [wr_len])) h5 ⟨by (show 0 ≤ a82); omega, by (show a82 ≤ F 5); omega⟩) (fun r G9 hp9 => ?_)
            obtain ⟨b83, a83, rfl, rfl, hb83, hw83, p83, q83⟩ := hp9
            have p83 : 0 ≤ a83 := p83
            have q83 : a83 ≤ F 5 := q83
            refine R_s (f' := (79, [some (vR 17), some (vR 65), some (vI x), some (vI 0)], [vI b83], LAY (u (u (u A 72 (A 72)) 73 (A 73)) 71 (wr (A 71) x 2)) (u (u F 7 (F 7)) 6 a83), 0, 0)) hc45 0 rfl trivial ?_
            refine R_retz hc45 rfl rfl (by omega) ?_
            refine R_s (f' := (26, [some (vR 17), some (vR 65), some (vI x), none], [vI b83], LAY (u (u (u A 72 (A 72)) 73 (A 73)) 71 (wr (A 71) x 2)) (u (u F 7 (F 7)) 6 a83), 0, 0)) hc44 0 rfl trivial ?_
            refine R_if (t := 31) hc44 rfl rfl (fun (c8 : ¬ b83 = 0) => ?_) (fun (c8 : ¬ (¬ b83 = 0)) => ?_)
            · refine R_s (P := True) (f' := (32, [some (vR 17), some (vR 65), some (vI x), none], [vR 17], LAY (u (u (u A 72 (A 72)) 73 (A 73)) 71 (wr (A 71) x 2)) (u (u F 7 (F 7)) 6 a83), 0, 0)) hc44 1 rfl trivial ?_
              refine R_cv hc44 rfl rfl (l_next (A := (u (u (u A 72 (A 72)) 73 (A 73)) 71 (wr (A 71) x 2))) (F := (u (u F 7 (F 7)) 6 a83)) (LENS_u (LENS_u (LENS_u hL (by show (A 72).length = (A 72).length; omega)) (by show (A 73).length = (A 73).length; omega)) (by show (wr (A 71) x 2).length = (A 71).length; simp only [wr_len])) h5 ⟨by (show 0 ≤ a83); omega, by (show a83 ≤ F 5); omega⟩) (fun r G9 hp9 => ?_)
              obtain ⟨e1, rfl⟩ := hp9
              have e2 : r = some (vI (nx (A 18) (F 5) (a83))) := e1
              clear e1
              subst e2
              refine R_s (f' := (35, [some (vR 17), some (vR 65), some (vI x), none], [vI (nx (A 18) (F 5) (a83))], LAY (u (u (u A 72 (A 72)) 73 (A 73)) 71 (wr (A 71) x 2)) (u (u F 7 (F 7)) 6 a83), 0, 0)) hc44 0 rfl trivial ?_
              refine R_s (P := True) (f' := (39, [some (vR 17), some (vR 65), some (vI x), some (vI (nx (A 18) (F 5) (a83)))], [vI 61, vI (nx (A 18) (F 5) (a83))], LAY (u (u (u A 72 (A 72)) 73 (A 73)) 71 (wr (A 71) x 2)) (u (u F 7 (F 7)) 6 a83), 0, 0)) hc44 3 rfl trivial ?_
              refine R_ic (t := 56) hc44 rfl rfl (fun (c9 : nx (A 18) (F 5) (a83) = 61) => ?_) (fun (c9 : ¬ (nx (A 18) (F 5) (a83) = 61)) => ?_)
              · refine R_s (P := (0 ≤ x ∧ x < ((A 72).length : Int)) ∧ inI (a83 + 1) ∧ True) (f' := (75, [some (vR 17), some (vR 65), some (vI x), some (vI (nx (A 18) (F 5) (a83)))], [vI 4, vR 17], LAY (u (u (u A 73 (A 73)) 71 (wr (A 71) x 2)) 72 (wr (A 72) x (nx (A 18) (F 5) (a83)))) (u (u F 7 (F 7)) 6 (a83 + 1)), 0, 0)) hc44 13 rfl ⟨⟨by omega, by omega⟩, ⟨by omega, by omega⟩, trivial⟩ ?_
                refine R_cv hc44 rfl rfl (l_numb (A := (u (u (u A 73 (A 73)) 71 (wr (A 71) x 2)) 72 (wr (A 72) x (nx (A 18) (F 5) (a83))))) (F := (u (u F 7 (F 7)) 6 (a83 + 1))) (LENS_u (LENS_u (LENS_u hL (by show (A 73).length = (A 73).length; omega)) (by show (wr (A 71) x 2).length = (A 71).length; simp only [wr_len])) (by show (wr (A 72) x (nx (A 18) (F 5) (a83))).length = (A 72).length; simp only [wr_len])) h5 ⟨by (show 0 ≤ a83 + 1); omega, by (have := nx_in (l := A 18) (n := F 5) (a := a83) (by omega)); (show a83 + 1 ≤ F 5); omega⟩ (kk := 4) (by decide) rfl) (fun r G9 hp9 => ?_)
                obtain ⟨b84, a84, v84, rfl, rfl, hb84, hw84, p84, q84, w84⟩ := hp9
                have p84 : 0 ≤ a84 := p84
                have q84 : a84 ≤ F 5 := q84
                refine R_s (f' := (78, [some (vR 17), some (vR 65), some (vI x), some (vI (nx (A 18) (F 5) (a83)))], [vI b84], LAY (u (u (u A 73 (A 73)) 71 (wr (A 71) x 2)) 72 (wr (A 72) x (nx (A 18) (F 5) (a83)))) (u (u F 6 a84) 7 v84), 0, 0)) hc44 0 rfl trivial ?_
                refine R_if (t := 83) hc44 rfl rfl (fun (c10 : ¬ b84 = 0) => ?_) (fun (c10 : ¬ (¬ b84 = 0)) => ?_)
                · refine R_s (P := (0 ≤ x ∧ x < ((A 73).length : Int)) ∧ True) (f' := (94, [some (vR 17), some (vR 65), some (vI x), some (vI (nx (A 18) (F 5) (a83)))], [vI 1], LAY (u (u (u A 71 (wr (A 71) x 2)) 72 (wr (A 72) x (nx (A 18) (F 5) (a83)))) 73 (wr (A 73) x v84)) (u (u F 6 a84) 7 v84), 0, 0)) hc44 7 rfl ⟨⟨by omega, by omega⟩, trivial⟩ ?_
                  refine R_retz hc44 rfl rfl (Or.inr rfl) ⟨1, wr (A 71) x 2, wr (A 72) x (nx (A 18) (F 5) (a83)), wr (A 73) x v84, a84, v84, rfl, rfl, (by (try simp only [wr_len]); omega), (by (try simp only [wr_len]); omega), (by (try simp only [wr_len]); omega), by decide, by omega, by first | omega | (have := nx_in (l := A 18) (n := F 5) (a := F 6) (by omega); omega), fun q hq => by rw [rd_wr_n (by omega) (by omega) (by omega)], fun q hq => by rw [rd_wr_n (by omega) (by omega) (by omega)], fun q hq => by rw [rd_wr_n (by omega) (by omega) (by omega)], ?_⟩
                  have ehw81 : b81 = 1 := by omega
                  rw [ehw81] at hw81
                  have hw81n : wD (A 18) (F 5) IFF (0, F 6) = (0, a81) := hw81
                  have ehw82 : b82 = 1 := by omega
                  rw [ehw82] at hw82
                  have hw82n : wD (A 18) (F 5) YY (0, a81) = (0, a82) := hw82
                  have ehw83 : b83 = 1 := by omega
                  rw [ehw83] at hw83
                  have hw83n : wD (A 18) (F 5) IELD (0, a82) = (0, a83) := hw83
                  have ehw84 : b84 = 1 := by omega
                  rw [ehw84] at hw84
                  have hw84n : dG (A 18) (F 5) 4 (0, a83 + 1) = ((0, a84), v84) := hw84
                  have hYe : eE (A 18) (F 5) 121 (0, a81) = (0, a82) := hw82n
                  have e2 : t2 (A 18) (F 5) (0, F 6) = ((0, a83), 1) := by
                    unfold t2
                    rw [hw81n]
                    rw [if_pos rfl]
                    unfold fD
                    (try dsimp only)
                    rw [if_neg (by omega), hYe]
                    rw [if_neg (fun z => by have := z.2; (try dsimp only at this); omega), hw83n]
                  have e3 : t3 (A 18) (F 5) (0, F 6) = (0, a83 + 1) := by
                    unfold t3
                    rw [e2]
                    rw [if_pos ⟨rfl, by (try dsimp only); omega⟩]
                  have e4 : dG (A 18) (F 5) 4 (t3 (A 18) (F 5) (0, F 6)) = ((0, a84), v84) := by
                    rw [e3]
                    exact hw84n
                  have eS : tS (A 18) (F 5) (0, F 6) = (0, a84) := by
                    unfold tS
                    rw [if_pos ⟨rfl, by (try dsimp only); omega⟩, e4]
                  have eF : tF (A 18) (F 5) (0, F 6) = 1 := by
                    unfold tF
                    rw [if_pos ⟨rfl, by (try dsimp only); omega⟩, e2]
                  have eG : tG (A 18) (F 5) (0, F 6) = nx (A 18) (F 5) (a83) := by
                    unfold tG
                    rw [e2]
                  have eH : tH (A 18) (F 5) (0, F 6) = v84 := by
                    unfold tH
                    rw [e4]
                  refine ⟨eS, fun _ => ⟨?_, .inr ⟨?_, ?_⟩⟩⟩
                  · rw [eF, ← ex, rd_wr_s (by omega) (by (try simp only [wr_len]); omega)]
                    decide
                  · rw [eG, ← ex, rd_wr_s (by omega) (by (try simp only [wr_len]); omega)]
                  · rw [eH, ← ex, rd_wr_s (by omega) (by (try simp only [wr_len]); omega)]
                · refine R_s (P := True) (f' := (82, [some (vR 17), some (vR 65), some (vI x), some (vI (nx (A 18) (F 5) (a83)))], [vI 0], LAY (u (u (u A 73 (A 73)) 71 (wr (A 71) x 2)) 72 (wr (A 72) x (nx (A 18) (F 5) (a83)))) (u (u F 6 a84) 7 v84), 0, 0)) hc44 1 rfl trivial ?_
                  refine R_retz hc44 rfl rfl (Or.inl rfl) ⟨0, wr (A 71) x 2, wr (A 72) x (nx (A 18) (F 5) (a83)), A 73, a84, v84, rfl, rfl, (by (try simp only [wr_len]); omega), (by (try simp only [wr_len]); omega), (by (try simp only [wr_len]); omega), by decide, by omega, by first | omega | (have := nx_in (l := A 18) (n := F 5) (a := F 6) (by omega); omega), fun q hq => by rw [rd_wr_n (by omega) (by omega) (by omega)], fun q hq => by rw [rd_wr_n (by omega) (by omega) (by omega)], fun _ _ => rfl, ?_, fun z => absurd z (by decide)⟩
                  have ehw81 : b81 = 1 := by omega
                  rw [ehw81] at hw81
                  have hw81n : wD (A 18) (F 5) IFF (0, F 6) = (0, a81) := hw81
                  have ehw82 : b82 = 1 := by omega
                  rw [ehw82] at hw82
                  have hw82n : wD (A 18) (F 5) YY (0, a81) = (0, a82) := hw82
                  have ehw83 : b83 = 1 := by omega
                  rw [ehw83] at hw83
                  have hw83n : wD (A 18) (F 5) IELD (0, a82) = (0, a83) := hw83
                  have ehw84 : b84 = 0 := by omega
                  rw [ehw84] at hw84
                  have hw84n : dG (A 18) (F 5) 4 (0, a83 + 1) = ((1, a84), v84) := hw84
                  have hYe : eE (A 18) (F 5) 121 (0, a81) = (0, a82) := hw82n
                  have e2 : t2 (A 18) (F 5) (0, F 6) = ((0, a83), 1) := by
                    unfold t2
                    rw [hw81n]
                    rw [if_pos rfl]
                    unfold fD
                    (try dsimp only)
                    rw [if_neg (by omega), hYe]
                    rw [if_neg (fun z => by have := z.2; (try dsimp only at this); omega), hw83n]
                  have e3 : t3 (A 18) (F 5) (0, F 6) = (0, a83 + 1) := by
                    unfold t3
                    rw [e2]
                    rw [if_pos ⟨rfl, by (try dsimp only); omega⟩]
                  have e4 : dG (A 18) (F 5) 4 (t3 (A 18) (F 5) (0, F 6)) = ((1, a84), v84) := by
                    rw [e3]
                    exact hw84n
                  have eS : tS (A 18) (F 5) (0, F 6) = (1, a84) := by
                    unfold tS
                    rw [if_pos ⟨rfl, by (try dsimp only); omega⟩, e4]
                  exact eS
              · refine R_s (P := True) (f' := (45, [some (vR 17), some (vR 65), some (vI x), some (vI (nx (A 18) (F 5) (a83)))], [vI 60, vI (nx (A 18) (F 5) (a83))], LAY (u (u (u A 72 (A 72)) 73 (A 73)) 71 (wr (A 71) x 2)) (u (u F 7 (F 7)) 6 a83), 0, 0)) hc44 2 rfl trivial ?_
                refine R_ic (t := 56) hc44 rfl rfl (fun (c11 : nx (A 18) (F 5) (a83) = 60) => ?_) (fun (c11 : ¬ (nx (A 18) (F 5) (a83) = 60)) => ?_)
                · refine R_s (P := (0 ≤ x ∧ x < ((A 72).length : Int)) ∧ inI (a83 + 1) ∧ True) (f' := (75, [some (vR 17), some (vR 65), some (vI x), some (vI (nx (A 18) (F 5) (a83)))], [vI 4, vR 17], LAY (u (u (u A 73 (A 73)) 71 (wr (A 71) x 2)) 72 (wr (A 72) x (nx (A 18) (F 5) (a83)))) (u (u F 7 (F 7)) 6 (a83 + 1)), 0, 0)) hc44 13 rfl ⟨⟨by omega, by omega⟩, ⟨by omega, by omega⟩, trivial⟩ ?_
                  refine R_cv hc44 rfl rfl (l_numb (A := (u (u (u A 73 (A 73)) 71 (wr (A 71) x 2)) 72 (wr (A 72) x (nx (A 18) (F 5) (a83))))) (F := (u (u F 7 (F 7)) 6 (a83 + 1))) (LENS_u (LENS_u (LENS_u hL (by show (A 73).length = (A 73).length; omega)) (by show (wr (A 71) x 2).length = (A 71).length; simp only [wr_len])) (by show (wr (A 72) x (nx (A 18) (F 5) (a83))).length = (A 72).length; simp only [wr_len])) h5 ⟨by (show 0 ≤ a83 + 1); omega, by (have := nx_in (l := A 18) (n := F 5) (a := a83) (by omega)); (show a83 + 1 ≤ F 5); omega⟩ (kk := 4) (by decide) rfl) (fun r G9 hp9 => ?_)
                  obtain ⟨b85, a85, v85, rfl, rfl, hb85, hw85, p85, q85, w85⟩ := hp9
                  have p85 : 0 ≤ a85 := p85
                  have q85 : a85 ≤ F 5 := q85
                  refine R_s (f' := (78, [some (vR 17), some (vR 65), some (vI x), some (vI (nx (A 18) (F 5) (a83)))], [vI b85], LAY (u (u (u A 73 (A 73)) 71 (wr (A 71) x 2)) 72 (wr (A 72) x (nx (A 18) (F 5) (a83)))) (u (u F 6 a85) 7 v85), 0, 0)) hc44 0 rfl trivial ?_
                  refine R_if (t := 83) hc44 rfl rfl (fun (c12 : ¬ b85 = 0) => ?_) (fun (c12 : ¬ (¬ b85 = 0)) => ?_)
                  · refine R_s (P := (0 ≤ x ∧ x < ((A 73).length : Int)) ∧ True) (f' := (94, [some (vR 17), some (vR 65), some (vI x), some (vI (nx (A 18) (F 5) (a83)))], [vI 1], LAY (u (u (u A 71 (wr (A 71) x 2)) 72 (wr (A 72) x (nx (A 18) (F 5) (a83)))) 73 (wr (A 73) x v85)) (u (u F 6 a85) 7 v85), 0, 0)) hc44 7 rfl ⟨⟨by omega, by omega⟩, trivial⟩ ?_
                    refine R_retz hc44 rfl rfl (Or.inr rfl) ⟨1, wr (A 71) x 2, wr (A 72) x (nx (A 18) (F 5) (a83)), wr (A 73) x v85, a85, v85, rfl, rfl, (by (try simp only [wr_len]); omega), (by (try simp only [wr_len]); omega), (by (try simp only [wr_len]); omega), by decide, by omega, by first | omega | (have := nx_in (l := A 18) (n := F 5) (a := F 6) (by omega); omega), fun q hq => by rw [rd_wr_n (by omega) (by omega) (by omega)], fun q hq => by rw [rd_wr_n (by omega) (by omega) (by omega)], fun q hq => by rw [rd_wr_n (by omega) (by omega) (by omega)], ?_⟩
                    have ehw81 : b81 = 1 := by omega
                    rw [ehw81] at hw81
                    have hw81n : wD (A 18) (F 5) IFF (0, F 6) = (0, a81) := hw81
                    have ehw82 : b82 = 1 := by omega
                    rw [ehw82] at hw82
                    have hw82n : wD (A 18) (F 5) YY (0, a81) = (0, a82) := hw82
                    have ehw83 : b83 = 1 := by omega
                    rw [ehw83] at hw83
                    have hw83n : wD (A 18) (F 5) IELD (0, a82) = (0, a83) := hw83
                    have ehw85 : b85 = 1 := by omega
                    rw [ehw85] at hw85
                    have hw85n : dG (A 18) (F 5) 4 (0, a83 + 1) = ((0, a85), v85) := hw85
                    have hYe : eE (A 18) (F 5) 121 (0, a81) = (0, a82) := hw82n
                    have e2 : t2 (A 18) (F 5) (0, F 6) = ((0, a83), 1) := by
                      unfold t2
                      rw [hw81n]
                      rw [if_pos rfl]
                      unfold fD
                      (try dsimp only)
                      rw [if_neg (by omega), hYe]
                      rw [if_neg (fun z => by have := z.2; (try dsimp only at this); omega), hw83n]
                    have e3 : t3 (A 18) (F 5) (0, F 6) = (0, a83 + 1) := by
                      unfold t3
                      rw [e2]
                      rw [if_pos ⟨rfl, by (try dsimp only); omega⟩]
                    have e4 : dG (A 18) (F 5) 4 (t3 (A 18) (F 5) (0, F 6)) = ((0, a85), v85) := by
                      rw [e3]
                      exact hw85n
                    have eS : tS (A 18) (F 5) (0, F 6) = (0, a85) := by
                      unfold tS
                      rw [if_pos ⟨rfl, by (try dsimp only); omega⟩, e4]
                    have eF : tF (A 18) (F 5) (0, F 6) = 1 := by
                      unfold tF
                      rw [if_pos ⟨rfl, by (try dsimp only); omega⟩, e2]
                    have eG : tG (A 18) (F 5) (0, F 6) = nx (A 18) (F 5) (a83) := by
                      unfold tG
                      rw [e2]
                    have eH : tH (A 18) (F 5) (0, F 6) = v85 := by
                      unfold tH
                      rw [e4]
                    refine ⟨eS, fun _ => ⟨?_, .inr ⟨?_, ?_⟩⟩⟩
                    · rw [eF, ← ex, rd_wr_s (by omega) (by (try simp only [wr_len]); omega)]
                      decide
                    · rw [eG, ← ex, rd_wr_s (by omega) (by (try simp only [wr_len]); omega)]
                    · rw [eH, ← ex, rd_wr_s (by omega) (by (try simp only [wr_len]); omega)]
                  · refine R_s (P := True) (f' := (82, [some (vR 17), some (vR 65), some (vI x), some (vI (nx (A 18) (F 5) (a83)))], [vI 0], LAY (u (u (u A 73 (A 73)) 71 (wr (A 71) x 2)) 72 (wr (A 72) x (nx (A 18) (F 5) (a83)))) (u (u F 6 a85) 7 v85), 0, 0)) hc44 1 rfl trivial ?_
                    refine R_retz hc44 rfl rfl (Or.inl rfl) ⟨0, wr (A 71) x 2, wr (A 72) x (nx (A 18) (F 5) (a83)), A 73, a85, v85, rfl, rfl, (by (try simp only [wr_len]); omega), (by (try simp only [wr_len]); omega), (by (try simp only [wr_len]); omega), by decide, by omega, by first | omega | (have := nx_in (l := A 18) (n := F 5) (a := F 6) (by omega); omega), fun q hq => by rw [rd_wr_n (by omega) (by omega) (by omega)], fun q hq => by rw [rd_wr_n (by omega) (by omega) (by omega)], fun _ _ => rfl, ?_, fun z => absurd z (by decide)⟩
                    have ehw81 : b81 = 1 := by omega
                    rw [ehw81] at hw81
                    have hw81n : wD (A 18) (F 5) IFF (0, F 6) = (0, a81) := hw81
                    have ehw82 : b82 = 1 := by omega
                    rw [ehw82] at hw82
                    have hw82n : wD (A 18) (F 5) YY (0, a81) = (0, a82) := hw82
                    have ehw83 : b83 = 1 := by omega
                    rw [ehw83] at hw83
                    have hw83n : wD (A 18) (F 5) IELD (0, a82) = (0, a83) := hw83
                    have ehw85 : b85 = 0 := by omega
                    rw [ehw85] at hw85
                    have hw85n : dG (A 18) (F 5) 4 (0, a83 + 1) = ((1, a85), v85) := hw85
                    have hYe : eE (A 18) (F 5) 121 (0, a81) = (0, a82) := hw82n
                    have e2 : t2 (A 18) (F 5) (0, F 6) = ((0, a83), 1) := by
                      unfold t2
                      rw [hw81n]
                      rw [if_pos rfl]
                      unfold fD
                      (try dsimp only)
                      rw [if_neg (by omega), hYe]
                      rw [if_neg (fun z => by have := z.2; (try dsimp only at this); omega), hw83n]
                    have e3 : t3 (A 18) (F 5) (0, F 6) = (0, a83 + 1) := by
                      unfold t3
                      rw [e2]
                      rw [if_pos ⟨rfl, by (try dsimp only); omega⟩]
                    have e4 : dG (A 18) (F 5) 4 (t3 (A 18) (F 5) (0, F 6)) = ((1, a85), v85) := by
                      rw [e3]
                      exact hw85n
                    have eS : tS (A 18) (F 5) (0, F 6) = (1, a85) := by
                      unfold tS
                      rw [if_pos ⟨rfl, by (try dsimp only); omega⟩, e4]
                    exact eS
                · refine R_s (P := True) (f' := (51, [some (vR 17), some (vR 65), some (vI x), some (vI (nx (A 18) (F 5) (a83)))], [vI 62, vI (nx (A 18) (F 5) (a83))], LAY (u (u (u A 72 (A 72)) 73 (A 73)) 71 (wr (A 71) x 2)) (u (u F 7 (F 7)) 6 a83), 0, 0)) hc44 2 rfl trivial ?_
                  refine R_ic (t := 56) hc44 rfl rfl (fun (c13 : nx (A 18) (F 5) (a83) = 62) => ?_) (fun (c13 : ¬ (nx (A 18) (F 5) (a83) = 62)) => ?_)
                  · refine R_s (P := (0 ≤ x ∧ x < ((A 72).length : Int)) ∧ inI (a83 + 1) ∧ True) (f' := (75, [some (vR 17), some (vR 65), some (vI x), some (vI (nx (A 18) (F 5) (a83)))], [vI 4, vR 17], LAY (u (u (u A 73 (A 73)) 71 (wr (A 71) x 2)) 72 (wr (A 72) x (nx (A 18) (F 5) (a83)))) (u (u F 7 (F 7)) 6 (a83 + 1)), 0, 0)) hc44 13 rfl ⟨⟨by omega, by omega⟩, ⟨by omega, by omega⟩, trivial⟩ ?_
                    refine R_cv hc44 rfl rfl (l_numb (A := (u (u (u A 73 (A 73)) 71 (wr (A 71) x 2)) 72 (wr (A 72) x (nx (A 18) (F 5) (a83))))) (F := (u (u F 7 (F 7)) 6 (a83 + 1))) (LENS_u (LENS_u (LENS_u hL (by show (A 73).length = (A 73).length; omega)) (by show (wr (A 71) x 2).length = (A 71).length; simp only [wr_len])) (by show (wr (A 72) x (nx (A 18) (F 5) (a83))).length = (A 72).length; simp only [wr_len])) h5 ⟨by (show 0 ≤ a83 + 1); omega, by (have := nx_in (l := A 18) (n := F 5) (a := a83) (by omega)); (show a83 + 1 ≤ F 5); omega⟩ (kk := 4) (by decide) rfl) (fun r G9 hp9 => ?_)
                    obtain ⟨b86, a86, v86, rfl, rfl, hb86, hw86, p86, q86, w86⟩ := hp9
                    have p86 : 0 ≤ a86 := p86
                    have q86 : a86 ≤ F 5 := q86
                    refine R_s (f' := (78, [some (vR 17), some (vR 65), some (vI x), some (vI (nx (A 18) (F 5) (a83)))], [vI b86], LAY (u (u (u A 73 (A 73)) 71 (wr (A 71) x 2)) 72 (wr (A 72) x (nx (A 18) (F 5) (a83)))) (u (u F 6 a86) 7 v86), 0, 0)) hc44 0 rfl trivial ?_
                    refine R_if (t := 83) hc44 rfl rfl (fun (c14 : ¬ b86 = 0) => ?_) (fun (c14 : ¬ (¬ b86 = 0)) => ?_)
                    · refine R_s (P := (0 ≤ x ∧ x < ((A 73).length : Int)) ∧ True) (f' := (94, [some (vR 17), some (vR 65), some (vI x), some (vI (nx (A 18) (F 5) (a83)))], [vI 1], LAY (u (u (u A 71 (wr (A 71) x 2)) 72 (wr (A 72) x (nx (A 18) (F 5) (a83)))) 73 (wr (A 73) x v86)) (u (u F 6 a86) 7 v86), 0, 0)) hc44 7 rfl ⟨⟨by omega, by omega⟩, trivial⟩ ?_
                      refine R_retz hc44 rfl rfl (Or.inr rfl) ⟨1, wr (A 71) x 2, wr (A 72) x (nx (A 18) (F 5) (a83)), wr (A 73) x v86, a86, v86, rfl, rfl, (by (try simp only [wr_len]); omega), (by (try simp only [wr_len]); omega), (by (try simp only [wr_len]); omega), by decide, by omega, by first | omega | (have := nx_in (l := A 18) (n := F 5) (a := F 6) (by omega); omega), fun q hq => by rw [rd_wr_n (by omega) (by omega) (by omega)], fun q hq => by rw [rd_wr_n (by omega) (by omega) (by omega)], fun q hq => by rw [rd_wr_n (by omega) (by omega) (by omega)], ?_⟩
                      have ehw81 : b81 = 1 := by omega
                      rw [ehw81] at hw81
                      have hw81n : wD (A 18) (F 5) IFF (0, F 6) = (0, a81) := hw81
                      have ehw82 : b82 = 1 := by omega
                      rw [ehw82] at hw82
                      have hw82n : wD (A 18) (F 5) YY (0, a81) = (0, a82) := hw82
                      have ehw83 : b83 = 1 := by omega
                      rw [ehw83] at hw83
                      have hw83n : wD (A 18) (F 5) IELD (0, a82) = (0, a83) := hw83
                      have ehw86 : b86 = 1 := by omega
                      rw [ehw86] at hw86
                      have hw86n : dG (A 18) (F 5) 4 (0, a83 + 1) = ((0, a86), v86) := hw86
                      have hYe : eE (A 18) (F 5) 121 (0, a81) = (0, a82) := hw82n
                      have e2 : t2 (A 18) (F 5) (0, F 6) = ((0, a83), 1) := by
                        unfold t2
                        rw [hw81n]
                        rw [if_pos rfl]
                        unfold fD
                        (try dsimp only)
                        rw [if_neg (by omega), hYe]
                        rw [if_neg (fun z => by have := z.2; (try dsimp only at this); omega), hw83n]
                      have e3 : t3 (A 18) (F 5) (0, F 6) = (0, a83 + 1) := by
                        unfold t3
                        rw [e2]
                        rw [if_pos ⟨rfl, by (try dsimp only); omega⟩]
                      have e4 : dG (A 18) (F 5) 4 (t3 (A 18) (F 5) (0, F 6)) = ((0, a86), v86) := by
                        rw [e3]
                        exact hw86n
                      have eS : tS (A 18) (F 5) (0, F 6) = (0, a86) := by
                        unfold tS
                        rw [if_pos ⟨rfl, by (try dsimp only); omega⟩, e4]
                      have eF : tF (A 18) (F 5) (0, F 6) = 1 := by
                        unfold tF
                        rw [if_pos ⟨rfl, by (try dsimp only); omega⟩, e2]
                      have eG : tG (A 18) (F 5) (0, F 6) = nx (A 18) (F 5) (a83) := by
                        unfold tG
                        rw [e2]
                      have eH : tH (A 18) (F 5) (0, F 6) = v86 := by
                        unfold tH
                        rw [e4]
                      refine ⟨eS, fun _ => ⟨?_, .inr ⟨?_, ?_⟩⟩⟩
                      · rw [eF, ← ex, rd_wr_s (by omega) (by (try simp only [wr_len]); omega)]
                        decide
                      · rw [eG, ← ex, rd_wr_s (by omega) (by (try simp only [wr_len]); omega)]
                      · rw [eH, ← ex, rd_wr_s (by omega) (by (try simp only [wr_len]); omega)]
                    · refine R_s (P := True) (f' := (82, [some (vR 17), some (vR 65), some (vI x), some (vI (nx (A 18) (F 5) (a83)))], [vI 0], LAY (u (u (u A 73 (A 73)) 71 (wr (A 71) x 2)) 72 (wr (A 72) x (nx (A 18) (F 5) (a83)))) (u (u F 6 a86) 7 v86), 0, 0)) hc44 1 rfl trivial ?_
                      refine R_retz hc44 rfl rfl (Or.inl rfl) ⟨0, wr (A 71) x 2, wr (A 72) x (nx (A 18) (F 5) (a83)), A 73, a86, v86, rfl, rfl, (by (try simp only [wr_len]); omega), (by (try simp only [wr_len]); omega), (by (try simp only [wr_len]); omega), by decide, by omega, by first | omega | (have := nx_in (l := A 18) (n := F 5) (a := F 6) (by omega); omega), fun q hq => by rw [rd_wr_n (by omega) (by omega) (by omega)], fun q hq => by rw [rd_wr_n (by omega) (by omega) (by omega)], fun _ _ => rfl, ?_, fun z => absurd z (by decide)⟩
                      have ehw81 : b81 = 1 := by omega
                      rw [ehw81] at hw81
                      have hw81n : wD (A 18) (F 5) IFF (0, F 6) = (0, a81) := hw81
                      have ehw82 : b82 = 1 := by omega
                      rw [ehw82] at hw82
                      have hw82n : wD (A 18) (F 5) YY (0, a81) = (0, a82) := hw82
                      have ehw83 : b83 = 1 := by omega
                      rw [ehw83] at hw83
                      have hw83n : wD (A 18) (F 5) IELD (0, a82) = (0, a83) := hw83
                      have ehw86 : b86 = 0 := by omega
                      rw [ehw86] at hw86
                      have hw86n : dG (A 18) (F 5) 4 (0, a83 + 1) = ((1, a86), v86) := hw86
                      have hYe : eE (A 18) (F 5) 121 (0, a81) = (0, a82) := hw82n
                      have e2 : t2 (A 18) (F 5) (0, F 6) = ((0, a83), 1) := by
                        unfold t2
                        rw [hw81n]
                        rw [if_pos rfl]
                        unfold fD
                        (try dsimp only)
                        rw [if_neg (by omega), hYe]
                        rw [if_neg (fun z => by have := z.2; (try dsimp only at this); omega), hw83n]
                      have e3 : t3 (A 18) (F 5) (0, F 6) = (0, a83 + 1) := by
                        unfold t3
                        rw [e2]
                        rw [if_pos ⟨rfl, by (try dsimp only); omega⟩]
                      have e4 : dG (A 18) (F 5) 4 (t3 (A 18) (F 5) (0, F 6)) = ((1, a86), v86) := by
                        rw [e3]
                        exact hw86n
                      have eS : tS (A 18) (F 5) (0, F 6) = (1, a86) := by
                        unfold tS
                        rw [if_pos ⟨rfl, by (try dsimp only); omega⟩, e4]
                      exact eS
                  · refine R_s (P := True) (f' := (55, [some (vR 17), some (vR 65), some (vI x), some (vI (nx (A 18) (F 5) (a83)))], [vI 0], LAY (u (u (u A 72 (A 72)) 73 (A 73)) 71 (wr (A 71) x 2)) (u (u F 7 (F 7)) 6 a83), 0, 0)) hc44 1 rfl trivial ?_
                    refine R_retz hc44 rfl rfl (Or.inl rfl) ⟨0, wr (A 71) x 2, A 72, A 73, a83, F 7, rfl, rfl, (by (try simp only [wr_len]); omega), (by (try simp only [wr_len]); omega), (by (try simp only [wr_len]); omega), by decide, by omega, by first | omega | (have := nx_in (l := A 18) (n := F 5) (a := F 6) (by omega); omega), fun q hq => by rw [rd_wr_n (by omega) (by omega) (by omega)], fun _ _ => rfl, fun _ _ => rfl, ?_, fun z => absurd z (by decide)⟩
                    have ehw81 : b81 = 1 := by omega
                    rw [ehw81] at hw81
                    have hw81n : wD (A 18) (F 5) IFF (0, F 6) = (0, a81) := hw81
                    have ehw82 : b82 = 1 := by omega
                    rw [ehw82] at hw82
                    have hw82n : wD (A 18) (F 5) YY (0, a81) = (0, a82) := hw82
                    have ehw83 : b83 = 1 := by omega
                    rw [ehw83] at hw83
                    have hw83n : wD (A 18) (F 5) IELD (0, a82) = (0, a83) := hw83
                    have hYe : eE (A 18) (F 5) 121 (0, a81) = (0, a82) := hw82n
                    have e2 : t2 (A 18) (F 5) (0, F 6) = ((0, a83), 1) := by
                      unfold t2
                      rw [hw81n]
                      rw [if_pos rfl]
                      unfold fD
                      (try dsimp only)
                      rw [if_neg (by omega), hYe]
                      rw [if_neg (fun z => by have := z.2; (try dsimp only at this); omega), hw83n]
                    have e3 : t3 (A 18) (F 5) (0, F 6) = (1, a83) := by
                      unfold t3
                      rw [e2]
                      rw [if_neg (fun z => by have := z.2; (try dsimp only at this); omega)]
                    have e4 : dG (A 18) (F 5) 4 (t3 (A 18) (F 5) (0, F 6)) = ((1, a83), 0) := by rw [e3, dG_f]
                    have eS : tS (A 18) (F 5) (0, F 6) = (1, a83) := by
                      unfold tS
                      rw [if_pos ⟨rfl, by (try dsimp only); omega⟩, e4]
                    exact eS
            · refine R_s (P := True) (f' := (30, [some (vR 17), some (vR 65), some (vI x), none], [vI 0], LAY (u (u (u A 72 (A 72)) 73 (A 73)) 71 (wr (A 71) x 2)) (u (u F 7 (F 7)) 6 a83), 0, 0)) hc44 1 rfl trivial ?_
              refine R_retz hc44 rfl rfl (Or.inl rfl) ⟨0, wr (A 71) x 2, A 72, A 73, a83, F 7, rfl, rfl, (by (try simp only [wr_len]); omega), (by (try simp only [wr_len]); omega), (by (try simp only [wr_len]); omega), by decide, by omega, by first | omega | (have := nx_in (l := A 18) (n := F 5) (a := F 6) (by omega); omega), fun q hq => by rw [rd_wr_n (by omega) (by omega) (by omega)], fun _ _ => rfl, fun _ _ => rfl, ?_, fun z => absurd z (by decide)⟩
              have ehw81 : b81 = 1 := by omega
              rw [ehw81] at hw81
              have hw81n : wD (A 18) (F 5) IFF (0, F 6) = (0, a81) := hw81
              have ehw82 : b82 = 1 := by omega
              rw [ehw82] at hw82
              have hw82n : wD (A 18) (F 5) YY (0, a81) = (0, a82) := hw82
              have ehw83 : b83 = 0 := by omega
              rw [ehw83] at hw83
              have hw83n : wD (A 18) (F 5) IELD (0, a82) = (1, a83) := hw83
              have hYe : eE (A 18) (F 5) 121 (0, a81) = (0, a82) := hw82n
              have e2 : t2 (A 18) (F 5) (0, F 6) = ((1, a83), 1) := by
                unfold t2
                rw [hw81n]
                rw [if_pos rfl]
                unfold fD
                (try dsimp only)
                rw [if_neg (by omega), hYe]
                rw [if_neg (fun z => by have := z.2; (try dsimp only at this); omega), hw83n]
              have e3 : t3 (A 18) (F 5) (0, F 6) = (1, a83) := by
                unfold t3
                rw [e2]
                rw [if_neg (fun z => absurd (show (1 : Int) = 0 from z.1) (by decide))]
              have e4 : dG (A 18) (F 5) 4 (t3 (A 18) (F 5) (0, F 6)) = ((1, a83), 0) := by rw [e3, dG_f]
              have eS : tS (A 18) (F 5) (0, F 6) = (1, a83) := by
                unfold tS
                rw [if_pos ⟨rfl, by (try dsimp only); omega⟩, e4]
              exact eS
          · refine R_s (P := True) (f' := (55, [some (vR 17), some (vR 65), some (vI x), some (vI 1)], [vI 1, vI x, vR 71], LAY (u (u (u A 71 (A 71)) 72 (A 72)) 73 (A 73)) (u (u F 7 (F 7)) 6 a82), 0, 0)) hc45 7 rfl trivial ?_
            refine R_if (t := 62) hc45 rfl rfl (fun (z : 1 = 0) => absurd z (by decide)) (fun (_ : ¬ (1 = 0)) => ?_)
            refine R_s (P := (0 ≤ x ∧ x < ((A 71).length : Int)) ∧ True) (f' := (66, [some (vR 17), some (vR 65), some (vI x), some (vI 1)], [vI 1, vR 17], LAY (u (u (u A 72 (A 72)) 73 (A 73)) 71 (wr (A 71) x 1)) (u (u F 7 (F 7)) 6 a82), 0, 0)) hc45 5 rfl ⟨⟨by omega, by omega⟩, trivial⟩ ?_
            refine R_if (t := 74) hc45 rfl rfl (fun (z : 1 = 0) => absurd z (by decide)) (fun (_ : ¬ (1 = 0)) => ?_)
            refine R_s (P := True) (f' := (76, [some (vR 17), some (vR 65), some (vI x), some (vI 1)], [vS 5, vR 17], LAY (u (u (u A 72 (A 72)) 73 (A 73)) 71 (wr (A 71) x 1)) (u (u F 7 (F 7)) 6 a82), 0, 0)) hc45 2 rfl trivial ?_
            refine R_cv hc45 rfl rfl (l_word5 (A := (u (u (u A 72 (A 72)) 73 (A 73)) 71 (wr (A 71) x 1))) (F := (u (u F 7 (F 7)) 6 a82)) (LENS_u (LENS_u (LENS_u hL (by show (A 72).length = (A 72).length; omega)) (by show (A 73).length = (A 73).length; omega)) (by show (wr (A 71) x 1).length = (A 71).length; simp only [wr_len])) h5 ⟨by (show 0 ≤ a82); omega, by (show a82 ≤ F 5); omega⟩) (fun r G9 hp9 => ?_)
            obtain ⟨b87, a87, rfl, rfl, hb87, hw87, p87, q87⟩ := hp9
            have p87 : 0 ≤ a87 := p87
            have q87 : a87 ≤ F 5 := q87
            refine R_s (f' := (79, [some (vR 17), some (vR 65), some (vI x), some (vI 1)], [vI b87], LAY (u (u (u A 72 (A 72)) 73 (A 73)) 71 (wr (A 71) x 1)) (u (u F 7 (F 7)) 6 a87), 0, 0)) hc45 0 rfl trivial ?_
            refine R_retz hc45 rfl rfl (by omega) ?_
            refine R_s (f' := (26, [some (vR 17), some (vR 65), some (vI x), none], [vI b87], LAY (u (u (u A 72 (A 72)) 73 (A 73)) 71 (wr (A 71) x 1)) (u (u F 7 (F 7)) 6 a87), 0, 0)) hc44 0 rfl trivial ?_
            refine R_if (t := 31) hc44 rfl rfl (fun (c10 : ¬ b87 = 0) => ?_) (fun (c10 : ¬ (¬ b87 = 0)) => ?_)
            · refine R_s (P := True) (f' := (32, [some (vR 17), some (vR 65), some (vI x), none], [vR 17], LAY (u (u (u A 72 (A 72)) 73 (A 73)) 71 (wr (A 71) x 1)) (u (u F 7 (F 7)) 6 a87), 0, 0)) hc44 1 rfl trivial ?_
              refine R_cv hc44 rfl rfl (l_next (A := (u (u (u A 72 (A 72)) 73 (A 73)) 71 (wr (A 71) x 1))) (F := (u (u F 7 (F 7)) 6 a87)) (LENS_u (LENS_u (LENS_u hL (by show (A 72).length = (A 72).length; omega)) (by show (A 73).length = (A 73).length; omega)) (by show (wr (A 71) x 1).length = (A 71).length; simp only [wr_len])) h5 ⟨by (show 0 ≤ a87); omega, by (show a87 ≤ F 5); omega⟩) (fun r G9 hp9 => ?_)
              obtain ⟨e1, rfl⟩ := hp9
              have e2 : r = some (vI (nx (A 18) (F 5) (a87))) := e1
              clear e1
              subst e2
              refine R_s (f' := (35, [some (vR 17), some (vR 65), some (vI x), none], [vI (nx (A 18) (F 5) (a87))], LAY (u (u (u A 72 (A 72)) 73 (A 73)) 71 (wr (A 71) x 1)) (u (u F 7 (F 7)) 6 a87), 0, 0)) hc44 0 rfl trivial ?_
              refine R_s (P := True) (f' := (39, [some (vR 17), some (vR 65), some (vI x), some (vI (nx (A 18) (F 5) (a87)))], [vI 61, vI (nx (A 18) (F 5) (a87))], LAY (u (u (u A 72 (A 72)) 73 (A 73)) 71 (wr (A 71) x 1)) (u (u F 7 (F 7)) 6 a87), 0, 0)) hc44 3 rfl trivial ?_
              refine R_ic (t := 56) hc44 rfl rfl (fun (c11 : nx (A 18) (F 5) (a87) = 61) => ?_) (fun (c11 : ¬ (nx (A 18) (F 5) (a87) = 61)) => ?_)
              · refine R_s (P := (0 ≤ x ∧ x < ((A 72).length : Int)) ∧ inI (a87 + 1) ∧ True) (f' := (75, [some (vR 17), some (vR 65), some (vI x), some (vI (nx (A 18) (F 5) (a87)))], [vI 4, vR 17], LAY (u (u (u A 73 (A 73)) 71 (wr (A 71) x 1)) 72 (wr (A 72) x (nx (A 18) (F 5) (a87)))) (u (u F 7 (F 7)) 6 (a87 + 1)), 0, 0)) hc44 13 rfl ⟨⟨by omega, by omega⟩, ⟨by omega, by omega⟩, trivial⟩ ?_
                refine R_cv hc44 rfl rfl (l_numb (A := (u (u (u A 73 (A 73)) 71 (wr (A 71) x 1)) 72 (wr (A 72) x (nx (A 18) (F 5) (a87))))) (F := (u (u F 7 (F 7)) 6 (a87 + 1))) (LENS_u (LENS_u (LENS_u hL (by show (A 73).length = (A 73).length; omega)) (by show (wr (A 71) x 1).length = (A 71).length; simp only [wr_len])) (by show (wr (A 72) x (nx (A 18) (F 5) (a87))).length = (A 72).length; simp only [wr_len])) h5 ⟨by (show 0 ≤ a87 + 1); omega, by (have := nx_in (l := A 18) (n := F 5) (a := a87) (by omega)); (show a87 + 1 ≤ F 5); omega⟩ (kk := 4) (by decide) rfl) (fun r G9 hp9 => ?_)
                obtain ⟨b88, a88, v88, rfl, rfl, hb88, hw88, p88, q88, w88⟩ := hp9
                have p88 : 0 ≤ a88 := p88
                have q88 : a88 ≤ F 5 := q88
                refine R_s (f' := (78, [some (vR 17), some (vR 65), some (vI x), some (vI (nx (A 18) (F 5) (a87)))], [vI b88], LAY (u (u (u A 73 (A 73)) 71 (wr (A 71) x 1)) 72 (wr (A 72) x (nx (A 18) (F 5) (a87)))) (u (u F 6 a88) 7 v88), 0, 0)) hc44 0 rfl trivial ?_
                refine R_if (t := 83) hc44 rfl rfl (fun (c12 : ¬ b88 = 0) => ?_) (fun (c12 : ¬ (¬ b88 = 0)) => ?_)
                · refine R_s (P := (0 ≤ x ∧ x < ((A 73).length : Int)) ∧ True) (f' := (94, [some (vR 17), some (vR 65), some (vI x), some (vI (nx (A 18) (F 5) (a87)))], [vI 1], LAY (u (u (u A 71 (wr (A 71) x 1)) 72 (wr (A 72) x (nx (A 18) (F 5) (a87)))) 73 (wr (A 73) x v88)) (u (u F 6 a88) 7 v88), 0, 0)) hc44 7 rfl ⟨⟨by omega, by omega⟩, trivial⟩ ?_
                  refine R_retz hc44 rfl rfl (Or.inr rfl) ⟨1, wr (A 71) x 1, wr (A 72) x (nx (A 18) (F 5) (a87)), wr (A 73) x v88, a88, v88, rfl, rfl, (by (try simp only [wr_len]); omega), (by (try simp only [wr_len]); omega), (by (try simp only [wr_len]); omega), by decide, by omega, by first | omega | (have := nx_in (l := A 18) (n := F 5) (a := F 6) (by omega); omega), fun q hq => by rw [rd_wr_n (by omega) (by omega) (by omega)], fun q hq => by rw [rd_wr_n (by omega) (by omega) (by omega)], fun q hq => by rw [rd_wr_n (by omega) (by omega) (by omega)], ?_⟩
                  have ehw81 : b81 = 1 := by omega
                  rw [ehw81] at hw81
                  have hw81n : wD (A 18) (F 5) IFF (0, F 6) = (0, a81) := hw81
                  have ehw82 : b82 = 1 := by omega
                  rw [ehw82] at hw82
                  have hw82n : wD (A 18) (F 5) YY (0, a81) = (0, a82) := hw82
                  have ehw87 : b87 = 1 := by omega
                  rw [ehw87] at hw87
                  have hw87n : wD (A 18) (F 5) EAR (0, a82) = (0, a87) := hw87
                  have ehw88 : b88 = 1 := by omega
                  rw [ehw88] at hw88
                  have hw88n : dG (A 18) (F 5) 4 (0, a87 + 1) = ((0, a88), v88) := hw88
                  have hYe : eE (A 18) (F 5) 121 (0, a81) = (0, a82) := hw82n
                  have e2 : t2 (A 18) (F 5) (0, F 6) = ((0, a87), 0) := by
                    unfold t2
                    rw [hw81n]
                    rw [if_pos rfl]
                    unfold fD
                    (try dsimp only)
                    rw [if_neg (by omega), hYe]
                    rw [if_pos ⟨rfl, by (try dsimp only); omega⟩, hw87n]
                  have e3 : t3 (A 18) (F 5) (0, F 6) = (0, a87 + 1) := by
                    unfold t3
                    rw [e2]
                    rw [if_pos ⟨rfl, by (try dsimp only); omega⟩]
                  have e4 : dG (A 18) (F 5) 4 (t3 (A 18) (F 5) (0, F 6)) = ((0, a88), v88) := by
                    rw [e3]
                    exact hw88n
                  have eS : tS (A 18) (F 5) (0, F 6) = (0, a88) := by
                    unfold tS
                    rw [if_pos ⟨rfl, by (try dsimp only); omega⟩, e4]
                  have eF : tF (A 18) (F 5) (0, F 6) = 0 := by
                    unfold tF
                    rw [if_pos ⟨rfl, by (try dsimp only); omega⟩, e2]
                  have eG : tG (A 18) (F 5) (0, F 6) = nx (A 18) (F 5) (a87) := by
                    unfold tG
                    rw [e2]
                  have eH : tH (A 18) (F 5) (0, F 6) = v88 := by
                    unfold tH
                    rw [e4]
                  refine ⟨eS, fun _ => ⟨?_, .inr ⟨?_, ?_⟩⟩⟩
                  · rw [eF, ← ex, rd_wr_s (by omega) (by (try simp only [wr_len]); omega)]
                    decide
                  · rw [eG, ← ex, rd_wr_s (by omega) (by (try simp only [wr_len]); omega)]
                  · rw [eH, ← ex, rd_wr_s (by omega) (by (try simp only [wr_len]); omega)]
                · refine R_s (P := True) (f' := (82, [some (vR 17), some (vR 65), some (vI x), some (vI (nx (A 18) (F 5) (a87)))], [vI 0], LAY (u (u (u A 73 (A 73)) 71 (wr (A 71) x 1)) 72 (wr (A 72) x (nx (A 18) (F 5) (a87)))) (u (u F 6 a88) 7 v88), 0, 0)) hc44 1 rfl trivial ?_
                  refine R_retz hc44 rfl rfl (Or.inl rfl) ⟨0, wr (A 71) x 1, wr (A 72) x (nx (A 18) (F 5) (a87)), A 73, a88, v88, rfl, rfl, (by (try simp only [wr_len]); omega), (by (try simp only [wr_len]); omega), (by (try simp only [wr_len]); omega), by decide, by omega, by first | omega | (have := nx_in (l := A 18) (n := F 5) (a := F 6) (by omega); omega), fun q hq => by rw [rd_wr_n (by omega) (by omega) (by omega)], fun q hq => by rw [rd_wr_n (by omega) (by omega) (by omega)], fun _ _ => rfl, ?_, fun z => absurd z (by decide)⟩
                  have ehw81 : b81 = 1 := by omega
                  rw [ehw81] at hw81
                  have hw81n : wD (A 18) (F 5) IFF (0, F 6) = (0, a81) := hw81
                  have ehw82 : b82 = 1 := by omega
                  rw [ehw82] at hw82
                  have hw82n : wD (A 18) (F 5) YY (0, a81) = (0, a82) := hw82
                  have ehw87 : b87 = 1 := by omega
                  rw [ehw87] at hw87
                  have hw87n : wD (A 18) (F 5) EAR (0, a82) = (0, a87) := hw87
                  have ehw88 : b88 = 0 := by omega
                  rw [ehw88] at hw88
                  have hw88n : dG (A 18) (F 5) 4 (0, a87 + 1) = ((1, a88), v88) := hw88
                  have hYe : eE (A 18) (F 5) 121 (0, a81) = (0, a82) := hw82n
                  have e2 : t2 (A 18) (F 5) (0, F 6) = ((0, a87), 0) := by
                    unfold t2
                    rw [hw81n]
                    rw [if_pos rfl]
                    unfold fD
                    (try dsimp only)
                    rw [if_neg (by omega), hYe]
                    rw [if_pos ⟨rfl, by (try dsimp only); omega⟩, hw87n]
                  have e3 : t3 (A 18) (F 5) (0, F 6) = (0, a87 + 1) := by
                    unfold t3
                    rw [e2]
                    rw [if_pos ⟨rfl, by (try dsimp only); omega⟩]
                  have e4 : dG (A 18) (F 5) 4 (t3 (A 18) (F 5) (0, F 6)) = ((1, a88), v88) := by
                    rw [e3]
                    exact hw88n
                  have eS : tS (A 18) (F 5) (0, F 6) = (1, a88) := by
                    unfold tS
                    rw [if_pos ⟨rfl, by (try dsimp only); omega⟩, e4]
                  exact eS
              · refine R_s (P := True) (f' := (45, [some (vR 17), some (vR 65), some (vI x), some (vI (nx (A 18) (F 5) (a87)))], [vI 60, vI (nx (A 18) (F 5) (a87))], LAY (u (u (u A 72 (A 72)) 73 (A 73)) 71 (wr (A 71) x 1)) (u (u F 7 (F 7)) 6 a87), 0, 0)) hc44 2 rfl trivial ?_
                refine R_ic (t := 56) hc44 rfl rfl (fun (c13 : nx (A 18) (F 5) (a87) = 60) => ?_) (fun (c13 : ¬ (nx (A 18) (F 5) (a87) = 60)) => ?_)
                · refine R_s (P := (0 ≤ x ∧ x < ((A 72).length : Int)) ∧ inI (a87 + 1) ∧ True) (f' := (75, [some (vR 17), some (vR 65), some (vI x), some (vI (nx (A 18) (F 5) (a87)))], [vI 4, vR 17], LAY (u (u (u A 73 (A 73)) 71 (wr (A 71) x 1)) 72 (wr (A 72) x (nx (A 18) (F 5) (a87)))) (u (u F 7 (F 7)) 6 (a87 + 1)), 0, 0)) hc44 13 rfl ⟨⟨by omega, by omega⟩, ⟨by omega, by omega⟩, trivial⟩ ?_
                  refine R_cv hc44 rfl rfl (l_numb (A := (u (u (u A 73 (A 73)) 71 (wr (A 71) x 1)) 72 (wr (A 72) x (nx (A 18) (F 5) (a87))))) (F := (u (u F 7 (F 7)) 6 (a87 + 1))) (LENS_u (LENS_u (LENS_u hL (by show (A 73).length = (A 73).length; omega)) (by show (wr (A 71) x 1).length = (A 71).length; simp only [wr_len])) (by show (wr (A 72) x (nx (A 18) (F 5) (a87))).length = (A 72).length; simp only [wr_len])) h5 ⟨by (show 0 ≤ a87 + 1); omega, by (have := nx_in (l := A 18) (n := F 5) (a := a87) (by omega)); (show a87 + 1 ≤ F 5); omega⟩ (kk := 4) (by decide) rfl) (fun r G9 hp9 => ?_)
                  obtain ⟨b89, a89, v89, rfl, rfl, hb89, hw89, p89, q89, w89⟩ := hp9
                  have p89 : 0 ≤ a89 := p89
                  have q89 : a89 ≤ F 5 := q89
                  refine R_s (f' := (78, [some (vR 17), some (vR 65), some (vI x), some (vI (nx (A 18) (F 5) (a87)))], [vI b89], LAY (u (u (u A 73 (A 73)) 71 (wr (A 71) x 1)) 72 (wr (A 72) x (nx (A 18) (F 5) (a87)))) (u (u F 6 a89) 7 v89), 0, 0)) hc44 0 rfl trivial ?_
                  refine R_if (t := 83) hc44 rfl rfl (fun (c14 : ¬ b89 = 0) => ?_) (fun (c14 : ¬ (¬ b89 = 0)) => ?_)
                  · refine R_s (P := (0 ≤ x ∧ x < ((A 73).length : Int)) ∧ True) (f' := (94, [some (vR 17), some (vR 65), some (vI x), some (vI (nx (A 18) (F 5) (a87)))], [vI 1], LAY (u (u (u A 71 (wr (A 71) x 1)) 72 (wr (A 72) x (nx (A 18) (F 5) (a87)))) 73 (wr (A 73) x v89)) (u (u F 6 a89) 7 v89), 0, 0)) hc44 7 rfl ⟨⟨by omega, by omega⟩, trivial⟩ ?_
                    refine R_retz hc44 rfl rfl (Or.inr rfl) ⟨1, wr (A 71) x 1, wr (A 72) x (nx (A 18) (F 5) (a87)), wr (A 73) x v89, a89, v89, rfl, rfl, (by (try simp only [wr_len]); omega), (by (try simp only [wr_len]); omega), (by (try simp only [wr_len]); omega), by decide, by omega, by first | omega | (have := nx_in (l := A 18) (n := F 5) (a := F 6) (by omega); omega), fun q hq => by rw [rd_wr_n (by omega) (by omega) (by omega)], fun q hq => by rw [rd_wr_n (by omega) (by omega) (by omega)], fun q hq => by rw [rd_wr_n (by omega) (by omega) (by omega)], ?_⟩
                    have ehw81 : b81 = 1 := by omega
                    rw [ehw81] at hw81
                    have hw81n : wD (A 18) (F 5) IFF (0, F 6) = (0, a81) := hw81
                    have ehw82 : b82 = 1 := by omega
                    rw [ehw82] at hw82
                    have hw82n : wD (A 18) (F 5) YY (0, a81) = (0, a82) := hw82
                    have ehw87 : b87 = 1 := by omega
                    rw [ehw87] at hw87
                    have hw87n : wD (A 18) (F 5) EAR (0, a82) = (0, a87) := hw87
                    have ehw89 : b89 = 1 := by omega
                    rw [ehw89] at hw89
                    have hw89n : dG (A 18) (F 5) 4 (0, a87 + 1) = ((0, a89), v89) := hw89
                    have hYe : eE (A 18) (F 5) 121 (0, a81) = (0, a82) := hw82n
                    have e2 : t2 (A 18) (F 5) (0, F 6) = ((0, a87), 0) := by
                      unfold t2
                      rw [hw81n]
                      rw [if_pos rfl]
                      unfold fD
                      (try dsimp only)
                      rw [if_neg (by omega), hYe]
                      rw [if_pos ⟨rfl, by (try dsimp only); omega⟩, hw87n]
                    have e3 : t3 (A 18) (F 5) (0, F 6) = (0, a87 + 1) := by
                      unfold t3
                      rw [e2]
                      rw [if_pos ⟨rfl, by (try dsimp only); omega⟩]
                    have e4 : dG (A 18) (F 5) 4 (t3 (A 18) (F 5) (0, F 6)) = ((0, a89), v89) := by
                      rw [e3]
                      exact hw89n
                    have eS : tS (A 18) (F 5) (0, F 6) = (0, a89) := by
                      unfold tS
                      rw [if_pos ⟨rfl, by (try dsimp only); omega⟩, e4]
                    have eF : tF (A 18) (F 5) (0, F 6) = 0 := by
                      unfold tF
                      rw [if_pos ⟨rfl, by (try dsimp only); omega⟩, e2]
                    have eG : tG (A 18) (F 5) (0, F 6) = nx (A 18) (F 5) (a87) := by
                      unfold tG
                      rw [e2]
                    have eH : tH (A 18) (F 5) (0, F 6) = v89 := by
                      unfold tH
                      rw [e4]
                    refine ⟨eS, fun _ => ⟨?_, .inr ⟨?_, ?_⟩⟩⟩
                    · rw [eF, ← ex, rd_wr_s (by omega) (by (try simp only [wr_len]); omega)]
                      decide
                    · rw [eG, ← ex, rd_wr_s (by omega) (by (try simp only [wr_len]); omega)]
                    · rw [eH, ← ex, rd_wr_s (by omega) (by (try simp only [wr_len]); omega)]
                  · refine R_s (P := True) (f' := (82, [some (vR 17), some (vR 65), some (vI x), some (vI (nx (A 18) (F 5) (a87)))], [vI 0], LAY (u (u (u A 73 (A 73)) 71 (wr (A 71) x 1)) 72 (wr (A 72) x (nx (A 18) (F 5) (a87)))) (u (u F 6 a89) 7 v89), 0, 0)) hc44 1 rfl trivial ?_
                    refine R_retz hc44 rfl rfl (Or.inl rfl) ⟨0, wr (A 71) x 1, wr (A 72) x (nx (A 18) (F 5) (a87)), A 73, a89, v89, rfl, rfl, (by (try simp only [wr_len]); omega), (by (try simp only [wr_len]); omega), (by (try simp only [wr_len]); omega), by decide, by omega, by first | omega | (have := nx_in (l := A 18) (n := F 5) (a := F 6) (by omega); omega), fun q hq => by rw [rd_wr_n (by omega) (by omega) (by omega)], fun q hq => by rw [rd_wr_n (by omega) (by omega) (by omega)], fun _ _ => rfl, ?_, fun z => absurd z (by decide)⟩
                    have ehw81 : b81 = 1 := by omega
                    rw [ehw81] at hw81
                    have hw81n : wD (A 18) (F 5) IFF (0, F 6) = (0, a81) := hw81
                    have ehw82 : b82 = 1 := by omega
                    rw [ehw82] at hw82
                    have hw82n : wD (A 18) (F 5) YY (0, a81) = (0, a82) := hw82
                    have ehw87 : b87 = 1 := by omega
                    rw [ehw87] at hw87
                    have hw87n : wD (A 18) (F 5) EAR (0, a82) = (0, a87) := hw87
                    have ehw89 : b89 = 0 := by omega
                    rw [ehw89] at hw89
                    have hw89n : dG (A 18) (F 5) 4 (0, a87 + 1) = ((1, a89), v89) := hw89
                    have hYe : eE (A 18) (F 5) 121 (0, a81) = (0, a82) := hw82n
                    have e2 : t2 (A 18) (F 5) (0, F 6) = ((0, a87), 0) := by
                      unfold t2
                      rw [hw81n]
                      rw [if_pos rfl]
                      unfold fD
                      (try dsimp only)
                      rw [if_neg (by omega), hYe]
                      rw [if_pos ⟨rfl, by (try dsimp only); omega⟩, hw87n]
                    have e3 : t3 (A 18) (F 5) (0, F 6) = (0, a87 + 1) := by
                      unfold t3
                      rw [e2]
                      rw [if_pos ⟨rfl, by (try dsimp only); omega⟩]
                    have e4 : dG (A 18) (F 5) 4 (t3 (A 18) (F 5) (0, F 6)) = ((1, a89), v89) := by
                      rw [e3]
                      exact hw89n
                    have eS : tS (A 18) (F 5) (0, F 6) = (1, a89) := by
                      unfold tS
                      rw [if_pos ⟨rfl, by (try dsimp only); omega⟩, e4]
                    exact eS
                · refine R_s (P := True) (f' := (51, [some (vR 17), some (vR 65), some (vI x), some (vI (nx (A 18) (F 5) (a87)))], [vI 62, vI (nx (A 18) (F 5) (a87))], LAY (u (u (u A 72 (A 72)) 73 (A 73)) 71 (wr (A 71) x 1)) (u (u F 7 (F 7)) 6 a87), 0, 0)) hc44 2 rfl trivial ?_
                  refine R_ic (t := 56) hc44 rfl rfl (fun (c15 : nx (A 18) (F 5) (a87) = 62) => ?_) (fun (c15 : ¬ (nx (A 18) (F 5) (a87) = 62)) => ?_)
                  · refine R_s (P := (0 ≤ x ∧ x < ((A 72).length : Int)) ∧ inI (a87 + 1) ∧ True) (f' := (75, [some (vR 17), some (vR 65), some (vI x), some (vI (nx (A 18) (F 5) (a87)))], [vI 4, vR 17], LAY (u (u (u A 73 (A 73)) 71 (wr (A 71) x 1)) 72 (wr (A 72) x (nx (A 18) (F 5) (a87)))) (u (u F 7 (F 7)) 6 (a87 + 1)), 0, 0)) hc44 13 rfl ⟨⟨by omega, by omega⟩, ⟨by omega, by omega⟩, trivial⟩ ?_
                    refine R_cv hc44 rfl rfl (l_numb (A := (u (u (u A 73 (A 73)) 71 (wr (A 71) x 1)) 72 (wr (A 72) x (nx (A 18) (F 5) (a87))))) (F := (u (u F 7 (F 7)) 6 (a87 + 1))) (LENS_u (LENS_u (LENS_u hL (by show (A 73).length = (A 73).length; omega)) (by show (wr (A 71) x 1).length = (A 71).length; simp only [wr_len])) (by show (wr (A 72) x (nx (A 18) (F 5) (a87))).length = (A 72).length; simp only [wr_len])) h5 ⟨by (show 0 ≤ a87 + 1); omega, by (have := nx_in (l := A 18) (n := F 5) (a := a87) (by omega)); (show a87 + 1 ≤ F 5); omega⟩ (kk := 4) (by decide) rfl) (fun r G9 hp9 => ?_)
                    obtain ⟨b90, a90, v90, rfl, rfl, hb90, hw90, p90, q90, w90⟩ := hp9
                    have p90 : 0 ≤ a90 := p90
                    have q90 : a90 ≤ F 5 := q90
                    refine R_s (f' := (78, [some (vR 17), some (vR 65), some (vI x), some (vI (nx (A 18) (F 5) (a87)))], [vI b90], LAY (u (u (u A 73 (A 73)) 71 (wr (A 71) x 1)) 72 (wr (A 72) x (nx (A 18) (F 5) (a87)))) (u (u F 6 a90) 7 v90), 0, 0)) hc44 0 rfl trivial ?_
                    refine R_if (t := 83) hc44 rfl rfl (fun (c16 : ¬ b90 = 0) => ?_) (fun (c16 : ¬ (¬ b90 = 0)) => ?_)
                    · refine R_s (P := (0 ≤ x ∧ x < ((A 73).length : Int)) ∧ True) (f' := (94, [some (vR 17), some (vR 65), some (vI x), some (vI (nx (A 18) (F 5) (a87)))], [vI 1], LAY (u (u (u A 71 (wr (A 71) x 1)) 72 (wr (A 72) x (nx (A 18) (F 5) (a87)))) 73 (wr (A 73) x v90)) (u (u F 6 a90) 7 v90), 0, 0)) hc44 7 rfl ⟨⟨by omega, by omega⟩, trivial⟩ ?_
                      refine R_retz hc44 rfl rfl (Or.inr rfl) ⟨1, wr (A 71) x 1, wr (A 72) x (nx (A 18) (F 5) (a87)), wr (A 73) x v90, a90, v90, rfl, rfl, (by (try simp only [wr_len]); omega), (by (try simp only [wr_len]); omega), (by (try simp only [wr_len]); omega), by decide, by omega, by first | omega | (have := nx_in (l := A 18) (n := F 5) (a := F 6) (by omega); omega), fun q hq => by rw [rd_wr_n (by omega) (by omega) (by omega)], fun q hq => by rw [rd_wr_n (by omega) (by omega) (by omega)], fun q hq => by rw [rd_wr_n (by omega) (by omega) (by omega)], ?_⟩
                      have ehw81 : b81 = 1 := by omega
                      rw [ehw81] at hw81
                      have hw81n : wD (A 18) (F 5) IFF (0, F 6) = (0, a81) := hw81
                      have ehw82 : b82 = 1 := by omega
                      rw [ehw82] at hw82
                      have hw82n : wD (A 18) (F 5) YY (0, a81) = (0, a82) := hw82
                      have ehw87 : b87 = 1 := by omega
                      rw [ehw87] at hw87
                      have hw87n : wD (A 18) (F 5) EAR (0, a82) = (0, a87) := hw87
                      have ehw90 : b90 = 1 := by omega
                      rw [ehw90] at hw90
                      have hw90n : dG (A 18) (F 5) 4 (0, a87 + 1) = ((0, a90), v90) := hw90
                      have hYe : eE (A 18) (F 5) 121 (0, a81) = (0, a82) := hw82n
                      have e2 : t2 (A 18) (F 5) (0, F 6) = ((0, a87), 0) := by
                        unfold t2
                        rw [hw81n]
                        rw [if_pos rfl]
                        unfold fD
                        (try dsimp only)
                        rw [if_neg (by omega), hYe]
                        rw [if_pos ⟨rfl, by (try dsimp only); omega⟩, hw87n]
                      have e3 : t3 (A 18) (F 5) (0, F 6) = (0, a87 + 1) := by
                        unfold t3
                        rw [e2]
                        rw [if_pos ⟨rfl, by (try dsimp only); omega⟩]
                      have e4 : dG (A 18) (F 5) 4 (t3 (A 18) (F 5) (0, F 6)) = ((0, a90), v90) := by
                        rw [e3]
                        exact hw90n
                      have eS : tS (A 18) (F 5) (0, F 6) = (0, a90) := by
                        unfold tS
                        rw [if_pos ⟨rfl, by (try dsimp only); omega⟩, e4]
                      have eF : tF (A 18) (F 5) (0, F 6) = 0 := by
                        unfold tF
                        rw [if_pos ⟨rfl, by (try dsimp only); omega⟩, e2]
                      have eG : tG (A 18) (F 5) (0, F 6) = nx (A 18) (F 5) (a87) := by
                        unfold tG
                        rw [e2]
                      have eH : tH (A 18) (F 5) (0, F 6) = v90 := by
                        unfold tH
                        rw [e4]
                      refine ⟨eS, fun _ => ⟨?_, .inr ⟨?_, ?_⟩⟩⟩
                      · rw [eF, ← ex, rd_wr_s (by omega) (by (try simp only [wr_len]); omega)]
                        decide
                      · rw [eG, ← ex, rd_wr_s (by omega) (by (try simp only [wr_len]); omega)]
                      · rw [eH, ← ex, rd_wr_s (by omega) (by (try simp only [wr_len]); omega)]
                    · refine R_s (P := True) (f' := (82, [some (vR 17), some (vR 65), some (vI x), some (vI (nx (A 18) (F 5) (a87)))], [vI 0], LAY (u (u (u A 73 (A 73)) 71 (wr (A 71) x 1)) 72 (wr (A 72) x (nx (A 18) (F 5) (a87)))) (u (u F 6 a90) 7 v90), 0, 0)) hc44 1 rfl trivial ?_
                      refine R_retz hc44 rfl rfl (Or.inl rfl) ⟨0, wr (A 71) x 1, wr (A 72) x (nx (A 18) (F 5) (a87)), A 73, a90, v90, rfl, rfl, (by (try simp only [wr_len]); omega), (by (try simp only [wr_len]); omega), (by (try simp only [wr_len]); omega), by decide, by omega, by first | omega | (have := nx_in (l := A 18) (n := F 5) (a := F 6) (by omega); omega), fun q hq => by rw [rd_wr_n (by omega) (by omega) (by omega)], fun q hq => by rw [rd_wr_n (by omega) (by omega) (by omega)], fun _ _ => rfl, ?_, fun z => absurd z (by decide)⟩
                      have ehw81 : b81 = 1 := by omega
                      rw [ehw81] at hw81
                      have hw81n : wD (A 18) (F 5) IFF (0, F 6) = (0, a81) := hw81
                      have ehw82 : b82 = 1 := by omega
                      rw [ehw82] at hw82
                      have hw82n : wD (A 18) (F 5) YY (0, a81) = (0, a82) := hw82
                      have ehw87 : b87 = 1 := by omega
                      rw [ehw87] at hw87
                      have hw87n : wD (A 18) (F 5) EAR (0, a82) = (0, a87) := hw87
                      have ehw90 : b90 = 0 := by omega
                      rw [ehw90] at hw90
                      have hw90n : dG (A 18) (F 5) 4 (0, a87 + 1) = ((1, a90), v90) := hw90
                      have hYe : eE (A 18) (F 5) 121 (0, a81) = (0, a82) := hw82n
                      have e2 : t2 (A 18) (F 5) (0, F 6) = ((0, a87), 0) := by
                        unfold t2
                        rw [hw81n]
                        rw [if_pos rfl]
                        unfold fD
                        (try dsimp only)
                        rw [if_neg (by omega), hYe]
                        rw [if_pos ⟨rfl, by (try dsimp only); omega⟩, hw87n]
                      have e3 : t3 (A 18) (F 5) (0, F 6) = (0, a87 + 1) := by
                        unfold t3
                        rw [e2]
                        rw [if_pos ⟨rfl, by (try dsimp only); omega⟩]
                      have e4 : dG (A 18) (F 5) 4 (t3 (A 18) (F 5) (0, F 6)) = ((1, a90), v90) := by
                        rw [e3]
                        exact hw90n
                      have eS : tS (A 18) (F 5) (0, F 6) = (1, a90) := by
                        unfold tS
                        rw [if_pos ⟨rfl, by (try dsimp only); omega⟩, e4]
                      exact eS
                  · refine R_s (P := True) (f' := (55, [some (vR 17), some (vR 65), some (vI x), some (vI (nx (A 18) (F 5) (a87)))], [vI 0], LAY (u (u (u A 72 (A 72)) 73 (A 73)) 71 (wr (A 71) x 1)) (u (u F 7 (F 7)) 6 a87), 0, 0)) hc44 1 rfl trivial ?_
                    refine R_retz hc44 rfl rfl (Or.inl rfl) ⟨0, wr (A 71) x 1, A 72, A 73, a87, F 7, rfl, rfl, (by (try simp only [wr_len]); omega), (by (try simp only [wr_len]); omega), (by (try simp only [wr_len]); omega), by decide, by omega, by first | omega | (have := nx_in (l := A 18) (n := F 5) (a := F 6) (by omega); omega), fun q hq => by rw [rd_wr_n (by omega) (by omega) (by omega)], fun _ _ => rfl, fun _ _ => rfl, ?_, fun z => absurd z (by decide)⟩
                    have ehw81 : b81 = 1 := by omega
                    rw [ehw81] at hw81
                    have hw81n : wD (A 18) (F 5) IFF (0, F 6) = (0, a81) := hw81
                    have ehw82 : b82 = 1 := by omega
                    rw [ehw82] at hw82
                    have hw82n : wD (A 18) (F 5) YY (0, a81) = (0, a82) := hw82
                    have ehw87 : b87 = 1 := by omega
                    rw [ehw87] at hw87
                    have hw87n : wD (A 18) (F 5) EAR (0, a82) = (0, a87) := hw87
                    have hYe : eE (A 18) (F 5) 121 (0, a81) = (0, a82) := hw82n
                    have e2 : t2 (A 18) (F 5) (0, F 6) = ((0, a87), 0) := by
                      unfold t2
                      rw [hw81n]
                      rw [if_pos rfl]
                      unfold fD
                      (try dsimp only)
                      rw [if_neg (by omega), hYe]
                      rw [if_pos ⟨rfl, by (try dsimp only); omega⟩, hw87n]
                    have e3 : t3 (A 18) (F 5) (0, F 6) = (1, a87) := by
                      unfold t3
                      rw [e2]
                      rw [if_neg (fun z => by have := z.2; (try dsimp only at this); omega)]
                    have e4 : dG (A 18) (F 5) 4 (t3 (A 18) (F 5) (0, F 6)) = ((1, a87), 0) := by rw [e3, dG_f]
                    have eS : tS (A 18) (F 5) (0, F 6) = (1, a87) := by
                      unfold tS
                      rw [if_pos ⟨rfl, by (try dsimp only); omega⟩, e4]
                    exact eS
            · refine R_s (P := True) (f' := (30, [some (vR 17), some (vR 65), some (vI x), none], [vI 0], LAY (u (u (u A 72 (A 72)) 73 (A 73)) 71 (wr (A 71) x 1)) (u (u F 7 (F 7)) 6 a87), 0, 0)) hc44 1 rfl trivial ?_
              refine R_retz hc44 rfl rfl (Or.inl rfl) ⟨0, wr (A 71) x 1, A 72, A 73, a87, F 7, rfl, rfl, (by (try simp only [wr_len]); omega), (by (try simp only [wr_len]); omega), (by (try simp only [wr_len]); omega), by decide, by omega, by first | omega | (have := nx_in (l := A 18) (n := F 5) (a := F 6) (by omega); omega), fun q hq => by rw [rd_wr_n (by omega) (by omega) (by omega)], fun _ _ => rfl, fun _ _ => rfl, ?_, fun z => absurd z (by decide)⟩
              have ehw81 : b81 = 1 := by omega
              rw [ehw81] at hw81
              have hw81n : wD (A 18) (F 5) IFF (0, F 6) = (0, a81) := hw81
              have ehw82 : b82 = 1 := by omega
              rw [ehw82] at hw82
              have hw82n : wD (A 18) (F 5) YY (0, a81) = (0, a82) := hw82
              have ehw87 : b87 = 0 := by omega
              rw [ehw87] at hw87
              have hw87n : wD (A 18) (F 5) EAR (0, a82) = (1, a87) := hw87
              have hYe : eE (A 18) (F 5) 121 (0, a81) = (0, a82) := hw82n
              have e2 : t2 (A 18) (F 5) (0, F 6) = ((1, a87), 0) := by
                unfold t2
                rw [hw81n]
                rw [if_pos rfl]
                unfold fD
                (try dsimp only)
                rw [if_neg (by omega), hYe]
                rw [if_pos ⟨rfl, by (try dsimp only); omega⟩, hw87n]
              have e3 : t3 (A 18) (F 5) (0, F 6) = (1, a87) := by
                unfold t3
                rw [e2]
                rw [if_neg (fun z => absurd (show (1 : Int) = 0 from z.1) (by decide))]
              have e4 : dG (A 18) (F 5) 4 (t3 (A 18) (F 5) (0, F 6)) = ((1, a87), 0) := by rw [e3, dG_f]
              have eS : tS (A 18) (F 5) (0, F 6) = (1, a87) := by
                unfold tS
                rw [if_pos ⟨rfl, by (try dsimp only); omega⟩, e4]
              exact eS
        · refine R_s (P := True) (f' := (33, [some (vR 17), some (vR 65), some (vI x), none], [vI 0], LAY (u (u (u A 71 (A 71)) 72 (A 72)) 73 (A 73)) (u (u F 7 (F 7)) 6 a82), 0, 0)) hc45 1 rfl trivial ?_
          refine R_retz hc45 rfl rfl (Or.inl rfl) ?_
          refine R_s (f' := (26, [some (vR 17), some (vR 65), some (vI x), none], [vI 0], LAY (u (u (u A 71 (A 71)) 72 (A 72)) 73 (A 73)) (u (u F 7 (F 7)) 6 a82), 0, 0)) hc44 0 rfl trivial ?_
          refine R_if (t := 31) hc44 rfl rfl (fun (z : ¬ 0 = 0) => absurd z (by decide)) (fun (_ : ¬ (¬ 0 = 0)) => ?_)
          refine R_s (P := True) (f' := (30, [some (vR 17), some (vR 65), some (vI x), none], [vI 0], LAY (u (u (u A 71 (A 71)) 72 (A 72)) 73 (A 73)) (u (u F 7 (F 7)) 6 a82), 0, 0)) hc44 1 rfl trivial ?_
          refine R_retz hc44 rfl rfl (Or.inl rfl) ⟨0, A 71, A 72, A 73, a82, F 7, rfl, rfl, (by (try simp only [wr_len]); omega), (by (try simp only [wr_len]); omega), (by (try simp only [wr_len]); omega), by decide, by omega, by first | omega | (have := nx_in (l := A 18) (n := F 5) (a := F 6) (by omega); omega), fun _ _ => rfl, fun _ _ => rfl, fun _ _ => rfl, ?_, fun z => absurd z (by decide)⟩
          have ehw81 : b81 = 1 := by omega
          rw [ehw81] at hw81
          have hw81n : wD (A 18) (F 5) IFF (0, F 6) = (0, a81) := hw81
          have ehw82 : b82 = 0 := by omega
          rw [ehw82] at hw82
          have hw82n : wD (A 18) (F 5) YY (0, a81) = (1, a82) := hw82
          have hYe : eE (A 18) (F 5) 121 (0, a81) = (1, a82) := hw82n
          have e2 : t2 (A 18) (F 5) (0, F 6) = ((1, a82), 1) := by
            unfold t2
            rw [hw81n]
            rw [if_pos rfl]
            unfold fD
            (try dsimp only)
            rw [if_neg (by omega), hYe]
            rw [if_neg (fun z => absurd (show (1 : Int) = 0 from z.1) (by decide)), wD_f]
          have e3 : t3 (A 18) (F 5) (0, F 6) = (1, a82) := by
            unfold t3
            rw [e2]
            rw [if_neg (fun z => absurd (show (1 : Int) = 0 from z.1) (by decide))]
          have e4 : dG (A 18) (F 5) 4 (t3 (A 18) (F 5) (0, F 6)) = ((1, a82), 0) := by rw [e3, dG_f]
          have eS : tS (A 18) (F 5) (0, F 6) = (1, a82) := by
            unfold tS
            rw [if_pos ⟨rfl, by (try dsimp only); omega⟩, e4]
          exact eS
      · refine R_s (P := (0 ≤ x ∧ x < ((A 71).length : Int)) ∧ True) (f' := (19, [some (vR 17), some (vR 65), some (vI x), none], [vS 3, vR 17], LAY (u (u (u A 72 (A 72)) 73 (A 73)) 71 (wr (A 71) x 3)) (u (u F 7 (F 7)) 6 a81), 0, 0)) hc45 7 rfl ⟨⟨by omega, by omega⟩, trivial⟩ ?_
        refine R_cv hc45 rfl rfl (l_word3 (A := (u (u (u A 72 (A 72)) 73 (A 73)) 71 (wr (A 71) x 3))) (F := (u (u F 7 (F 7)) 6 a81)) (LENS_u (LENS_u (LENS_u hL (by show (A 72).length = (A 72).length; omega)) (by show (A 73).length = (A 73).length; omega)) (by show (wr (A 71) x 3).length = (A 71).length; simp only [wr_len])) h5 ⟨by (show 0 ≤ a81); omega, by (show a81 ≤ F 5); omega⟩) (fun r G9 hp9 => ?_)
        obtain ⟨b91, a91, rfl, rfl, hb91, hw91, p91, q91⟩ := hp9
        have p91 : 0 ≤ a91 := p91
        have q91 : a91 ≤ F 5 := q91
        refine R_s (f' := (22, [some (vR 17), some (vR 65), some (vI x), none], [vI b91], LAY (u (u (u A 72 (A 72)) 73 (A 73)) 71 (wr (A 71) x 3)) (u (u F 7 (F 7)) 6 a91), 0, 0)) hc45 0 rfl trivial ?_
        refine R_retz hc45 rfl rfl (by omega) ?_
        refine R_s (f' := (26, [some (vR 17), some (vR 65), some (vI x), none], [vI b91], LAY (u (u (u A 72 (A 72)) 73 (A 73)) 71 (wr (A 71) x 3)) (u (u F 7 (F 7)) 6 a91), 0, 0)) hc44 0 rfl trivial ?_
        refine R_if (t := 31) hc44 rfl rfl (fun (c10 : ¬ b91 = 0) => ?_) (fun (c10 : ¬ (¬ b91 = 0)) => ?_)
        · refine R_s (P := True) (f' := (32, [some (vR 17), some (vR 65), some (vI x), none], [vR 17], LAY (u (u (u A 72 (A 72)) 73 (A 73)) 71 (wr (A 71) x 3)) (u (u F 7 (F 7)) 6 a91), 0, 0)) hc44 1 rfl trivial ?_
          refine R_cv hc44 rfl rfl (l_next (A := (u (u (u A 72 (A 72)) 73 (A 73)) 71 (wr (A 71) x 3))) (F := (u (u F 7 (F 7)) 6 a91)) (LENS_u (LENS_u (LENS_u hL (by show (A 72).length = (A 72).length; omega)) (by show (A 73).length = (A 73).length; omega)) (by show (wr (A 71) x 3).length = (A 71).length; simp only [wr_len])) h5 ⟨by (show 0 ≤ a91); omega, by (show a91 ≤ F 5); omega⟩) (fun r G9 hp9 => ?_)
          obtain ⟨e1, rfl⟩ := hp9
          have e2 : r = some (vI (nx (A 18) (F 5) (a91))) := e1
          clear e1
          subst e2
          refine R_s (f' := (35, [some (vR 17), some (vR 65), some (vI x), none], [vI (nx (A 18) (F 5) (a91))], LAY (u (u (u A 72 (A 72)) 73 (A 73)) 71 (wr (A 71) x 3)) (u (u F 7 (F 7)) 6 a91), 0, 0)) hc44 0 rfl trivial ?_
          refine R_s (P := True) (f' := (39, [some (vR 17), some (vR 65), some (vI x), some (vI (nx (A 18) (F 5) (a91)))], [vI 61, vI (nx (A 18) (F 5) (a91))], LAY (u (u (u A 72 (A 72)) 73 (A 73)) 71 (wr (A 71) x 3)) (u (u F 7 (F 7)) 6 a91), 0, 0)) hc44 3 rfl trivial ?_
          refine R_ic (t := 56) hc44 rfl rfl (fun (c11 : nx (A 18) (F 5) (a91) = 61) => ?_) (fun (c11 : ¬ (nx (A 18) (F 5) (a91) = 61)) => ?_)
          · refine R_s (P := (0 ≤ x ∧ x < ((A 72).length : Int)) ∧ inI (a91 + 1) ∧ True) (f' := (75, [some (vR 17), some (vR 65), some (vI x), some (vI (nx (A 18) (F 5) (a91)))], [vI 4, vR 17], LAY (u (u (u A 73 (A 73)) 71 (wr (A 71) x 3)) 72 (wr (A 72) x (nx (A 18) (F 5) (a91)))) (u (u F 7 (F 7)) 6 (a91 + 1)), 0, 0)) hc44 13 rfl ⟨⟨by omega, by omega⟩, ⟨by omega, by omega⟩, trivial⟩ ?_
            refine R_cv hc44 rfl rfl (l_numb (A := (u (u (u A 73 (A 73)) 71 (wr (A 71) x 3)) 72 (wr (A 72) x (nx (A 18) (F 5) (a91))))) (F := (u (u F 7 (F 7)) 6 (a91 + 1))) (LENS_u (LENS_u (LENS_u hL (by show (A 73).length = (A 73).length; omega)) (by show (wr (A 71) x 3).length = (A 71).length; simp only [wr_len])) (by show (wr (A 72) x (nx (A 18) (F 5) (a91))).length = (A 72).length; simp only [wr_len])) h5 ⟨by (show 0 ≤ a91 + 1); omega, by (have := nx_in (l := A 18) (n := F 5) (a := a91) (by omega)); (show a91 + 1 ≤ F 5); omega⟩ (kk := 4) (by decide) rfl) (fun r G9 hp9 => ?_)
            obtain ⟨b92, a92, v92, rfl, rfl, hb92, hw92, p92, q92, w92⟩ := hp9
            have p92 : 0 ≤ a92 := p92
            have q92 : a92 ≤ F 5 := q92
            refine R_s (f' := (78, [some (vR 17), some (vR 65), some (vI x), some (vI (nx (A 18) (F 5) (a91)))], [vI b92], LAY (u (u (u A 73 (A 73)) 71 (wr (A 71) x 3)) 72 (wr (A 72) x (nx (A 18) (F 5) (a91)))) (u (u F 6 a92) 7 v92), 0, 0)) hc44 0 rfl trivial ?_
            refine R_if (t := 83) hc44 rfl rfl (fun (c12 : ¬ b92 = 0) => ?_) (fun (c12 : ¬ (¬ b92 = 0)) => ?_)
            · refine R_s (P := (0 ≤ x ∧ x < ((A 73).length : Int)) ∧ True) (f' := (94, [some (vR 17), some (vR 65), some (vI x), some (vI (nx (A 18) (F 5) (a91)))], [vI 1], LAY (u (u (u A 71 (wr (A 71) x 3)) 72 (wr (A 72) x (nx (A 18) (F 5) (a91)))) 73 (wr (A 73) x v92)) (u (u F 6 a92) 7 v92), 0, 0)) hc44 7 rfl ⟨⟨by omega, by omega⟩, trivial⟩ ?_
              refine R_retz hc44 rfl rfl (Or.inr rfl) ⟨1, wr (A 71) x 3, wr (A 72) x (nx (A 18) (F 5) (a91)), wr (A 73) x v92, a92, v92, rfl, rfl, (by (try simp only [wr_len]); omega), (by (try simp only [wr_len]); omega), (by (try simp only [wr_len]); omega), by decide, by omega, by first | omega | (have := nx_in (l := A 18) (n := F 5) (a := F 6) (by omega); omega), fun q hq => by rw [rd_wr_n (by omega) (by omega) (by omega)], fun q hq => by rw [rd_wr_n (by omega) (by omega) (by omega)], fun q hq => by rw [rd_wr_n (by omega) (by omega) (by omega)], ?_⟩
              have ehw81 : b81 = 1 := by omega
              rw [ehw81] at hw81
              have hw81n : wD (A 18) (F 5) IFF (0, F 6) = (0, a81) := hw81
              have ehw91 : b91 = 1 := by omega
              rw [ehw91] at hw91
              have hw91n : wD (A 18) (F 5) ALIVE (0, a81) = (0, a91) := hw91
              have ehw92 : b92 = 1 := by omega
              rw [ehw92] at hw92
              have hw92n : dG (A 18) (F 5) 4 (0, a91 + 1) = ((0, a92), v92) := hw92
              have e2 : t2 (A 18) (F 5) (0, F 6) = ((0, a91), 2) := by
                unfold t2
                rw [hw81n]
                rw [if_pos rfl]
                unfold fD
                (try dsimp only)
                rw [if_pos (by omega), hw91n]
              have e3 : t3 (A 18) (F 5) (0, F 6) = (0, a91 + 1) := by
                unfold t3
                rw [e2]
                rw [if_pos ⟨rfl, by (try dsimp only); omega⟩]
              have e4 : dG (A 18) (F 5) 4 (t3 (A 18) (F 5) (0, F 6)) = ((0, a92), v92) := by
                rw [e3]
                exact hw92n
              have eS : tS (A 18) (F 5) (0, F 6) = (0, a92) := by
                unfold tS
                rw [if_pos ⟨rfl, by (try dsimp only); omega⟩, e4]
              have eF : tF (A 18) (F 5) (0, F 6) = 2 := by
                unfold tF
                rw [if_pos ⟨rfl, by (try dsimp only); omega⟩, e2]
              have eG : tG (A 18) (F 5) (0, F 6) = nx (A 18) (F 5) (a91) := by
                unfold tG
                rw [e2]
              have eH : tH (A 18) (F 5) (0, F 6) = v92 := by
                unfold tH
                rw [e4]
              refine ⟨eS, fun _ => ⟨?_, .inr ⟨?_, ?_⟩⟩⟩
              · rw [eF, ← ex, rd_wr_s (by omega) (by (try simp only [wr_len]); omega)]
                decide
              · rw [eG, ← ex, rd_wr_s (by omega) (by (try simp only [wr_len]); omega)]
              · rw [eH, ← ex, rd_wr_s (by omega) (by (try simp only [wr_len]); omega)]
            · refine R_s (P := True) (f' := (82, [some (vR 17), some (vR 65), some (vI x), some (vI (nx (A 18) (F 5) (a91)))], [vI 0], LAY (u (u (u A 73 (A 73)) 71 (wr (A 71) x 3)) 72 (wr (A 72) x (nx (A 18) (F 5) (a91)))) (u (u F 6 a92) 7 v92), 0, 0)) hc44 1 rfl trivial ?_
              refine R_retz hc44 rfl rfl (Or.inl rfl) ⟨0, wr (A 71) x 3, wr (A 72) x (nx (A 18) (F 5) (a91)), A 73, a92, v92, rfl, rfl, (by (try simp only [wr_len]); omega), (by (try simp only [wr_len]); omega), (by (try simp only [wr_len]); omega), by decide, by omega, by first | omega | (have := nx_in (l := A 18) (n := F 5) (a := F 6) (by omega); omega), fun q hq => by rw [rd_wr_n (by omega) (by omega) (by omega)], fun q hq => by rw [rd_wr_n (by omega) (by omega) (by omega)], fun _ _ => rfl, ?_, fun z => absurd z (by decide)⟩
              have ehw81 : b81 = 1 := by omega
              rw [ehw81] at hw81
              have hw81n : wD (A 18) (F 5) IFF (0, F 6) = (0, a81) := hw81
              have ehw91 : b91 = 1 := by omega
              rw [ehw91] at hw91
              have hw91n : wD (A 18) (F 5) ALIVE (0, a81) = (0, a91) := hw91
              have ehw92 : b92 = 0 := by omega
              rw [ehw92] at hw92
              have hw92n : dG (A 18) (F 5) 4 (0, a91 + 1) = ((1, a92), v92) := hw92
              have e2 : t2 (A 18) (F 5) (0, F 6) = ((0, a91), 2) := by
                unfold t2
                rw [hw81n]
                rw [if_pos rfl]
                unfold fD
                (try dsimp only)
                rw [if_pos (by omega), hw91n]
              have e3 : t3 (A 18) (F 5) (0, F 6) = (0, a91 + 1) := by
                unfold t3
                rw [e2]
                rw [if_pos ⟨rfl, by (try dsimp only); omega⟩]
              have e4 : dG (A 18) (F 5) 4 (t3 (A 18) (F 5) (0, F 6)) = ((1, a92), v92) := by
                rw [e3]
                exact hw92n
              have eS : tS (A 18) (F 5) (0, F 6) = (1, a92) := by
                unfold tS
                rw [if_pos ⟨rfl, by (try dsimp only); omega⟩, e4]
              exact eS
          · refine R_s (P := True) (f' := (45, [some (vR 17), some (vR 65), some (vI x), some (vI (nx (A 18) (F 5) (a91)))], [vI 60, vI (nx (A 18) (F 5) (a91))], LAY (u (u (u A 72 (A 72)) 73 (A 73)) 71 (wr (A 71) x 3)) (u (u F 7 (F 7)) 6 a91), 0, 0)) hc44 2 rfl trivial ?_
            refine R_ic (t := 56) hc44 rfl rfl (fun (c13 : nx (A 18) (F 5) (a91) = 60) => ?_) (fun (c13 : ¬ (nx (A 18) (F 5) (a91) = 60)) => ?_)
            · refine R_s (P := (0 ≤ x ∧ x < ((A 72).length : Int)) ∧ inI (a91 + 1) ∧ True) (f' := (75, [some (vR 17), some (vR 65), some (vI x), some (vI (nx (A 18) (F 5) (a91)))], [vI 4, vR 17], LAY (u (u (u A 73 (A 73)) 71 (wr (A 71) x 3)) 72 (wr (A 72) x (nx (A 18) (F 5) (a91)))) (u (u F 7 (F 7)) 6 (a91 + 1)), 0, 0)) hc44 13 rfl ⟨⟨by omega, by omega⟩, ⟨by omega, by omega⟩, trivial⟩ ?_
              refine R_cv hc44 rfl rfl (l_numb (A := (u (u (u A 73 (A 73)) 71 (wr (A 71) x 3)) 72 (wr (A 72) x (nx (A 18) (F 5) (a91))))) (F := (u (u F 7 (F 7)) 6 (a91 + 1))) (LENS_u (LENS_u (LENS_u hL (by show (A 73).length = (A 73).length; omega)) (by show (wr (A 71) x 3).length = (A 71).length; simp only [wr_len])) (by show (wr (A 72) x (nx (A 18) (F 5) (a91))).length = (A 72).length; simp only [wr_len])) h5 ⟨by (show 0 ≤ a91 + 1); omega, by (have := nx_in (l := A 18) (n := F 5) (a := a91) (by omega)); (show a91 + 1 ≤ F 5); omega⟩ (kk := 4) (by decide) rfl) (fun r G9 hp9 => ?_)
              obtain ⟨b93, a93, v93, rfl, rfl, hb93, hw93, p93, q93, w93⟩ := hp9
              have p93 : 0 ≤ a93 := p93
              have q93 : a93 ≤ F 5 := q93
              refine R_s (f' := (78, [some (vR 17), some (vR 65), some (vI x), some (vI (nx (A 18) (F 5) (a91)))], [vI b93], LAY (u (u (u A 73 (A 73)) 71 (wr (A 71) x 3)) 72 (wr (A 72) x (nx (A 18) (F 5) (a91)))) (u (u F 6 a93) 7 v93), 0, 0)) hc44 0 rfl trivial ?_
              refine R_if (t := 83) hc44 rfl rfl (fun (c14 : ¬ b93 = 0) => ?_) (fun (c14 : ¬ (¬ b93 = 0)) => ?_)
              · refine R_s (P := (0 ≤ x ∧ x < ((A 73).length : Int)) ∧ True) (f' := (94, [some (vR 17), some (vR 65), some (vI x), some (vI (nx (A 18) (F 5) (a91)))], [vI 1], LAY (u (u (u A 71 (wr (A 71) x 3)) 72 (wr (A 72) x (nx (A 18) (F 5) (a91)))) 73 (wr (A 73) x v93)) (u (u F 6 a93) 7 v93), 0, 0)) hc44 7 rfl ⟨⟨by omega, by omega⟩, trivial⟩ ?_
                refine R_retz hc44 rfl rfl (Or.inr rfl) ⟨1, wr (A 71) x 3, wr (A 72) x (nx (A 18) (F 5) (a91)), wr (A 73) x v93, a93, v93, rfl, rfl, (by (try simp only [wr_len]); omega), (by (try simp only [wr_len]); omega), (by (try simp only [wr_len]); omega), by decide, by omega, by first | omega | (have := nx_in (l := A 18) (n := F 5) (a := F 6) (by omega); omega), fun q hq => by rw [rd_wr_n (by omega) (by omega) (by omega)], fun q hq => by rw [rd_wr_n (by omega) (by omega) (by omega)], fun q hq => by rw [rd_wr_n (by omega) (by omega) (by omega)], ?_⟩
                have ehw81 : b81 = 1 := by omega
                rw [ehw81] at hw81
                have hw81n : wD (A 18) (F 5) IFF (0, F 6) = (0, a81) := hw81
                have ehw91 : b91 = 1 := by omega
                rw [ehw91] at hw91
                have hw91n : wD (A 18) (F 5) ALIVE (0, a81) = (0, a91) := hw91
                have ehw93 : b93 = 1 := by omega
                rw [ehw93] at hw93
                have hw93n : dG (A 18) (F 5) 4 (0, a91 + 1) = ((0, a93), v93) := hw93
                have e2 : t2 (A 18) (F 5) (0, F 6) = ((0, a91), 2) := by
                  unfold t2
                  rw [hw81n]
                  rw [if_pos rfl]
                  unfold fD
                  (try dsimp only)
                  rw [if_pos (by omega), hw91n]
                have e3 : t3 (A 18) (F 5) (0, F 6) = (0, a91 + 1) := by
                  unfold t3
                  rw [e2]
                  rw [if_pos ⟨rfl, by (try dsimp only); omega⟩]
                have e4 : dG (A 18) (F 5) 4 (t3 (A 18) (F 5) (0, F 6)) = ((0, a93), v93) := by
                  rw [e3]
                  exact hw93n
                have eS : tS (A 18) (F 5) (0, F 6) = (0, a93) := by
                  unfold tS
                  rw [if_pos ⟨rfl, by (try dsimp only); omega⟩, e4]
                have eF : tF (A 18) (F 5) (0, F 6) = 2 := by
                  unfold tF
                  rw [if_pos ⟨rfl, by (try dsimp only); omega⟩, e2]
                have eG : tG (A 18) (F 5) (0, F 6) = nx (A 18) (F 5) (a91) := by
                  unfold tG
                  rw [e2]
                have eH : tH (A 18) (F 5) (0, F 6) = v93 := by
                  unfold tH
                  rw [e4]
                refine ⟨eS, fun _ => ⟨?_, .inr ⟨?_, ?_⟩⟩⟩
                · rw [eF, ← ex, rd_wr_s (by omega) (by (try simp only [wr_len]); omega)]
                  decide
                · rw [eG, ← ex, rd_wr_s (by omega) (by (try simp only [wr_len]); omega)]
                · rw [eH, ← ex, rd_wr_s (by omega) (by (try simp only [wr_len]); omega)]
              · refine R_s (P := True) (f' := (82, [some (vR 17), some (vR 65), some (vI x), some (vI (nx (A 18) (F 5) (a91)))], [vI 0], LAY (u (u (u A 73 (A 73)) 71 (wr (A 71) x 3)) 72 (wr (A 72) x (nx (A 18) (F 5) (a91)))) (u (u F 6 a93) 7 v93), 0, 0)) hc44 1 rfl trivial ?_
                refine R_retz hc44 rfl rfl (Or.inl rfl) ⟨0, wr (A 71) x 3, wr (A 72) x (nx (A 18) (F 5) (a91)), A 73, a93, v93, rfl, rfl, (by (try simp only [wr_len]); omega), (by (try simp only [wr_len]); omega), (by (try simp only [wr_len]); omega), by decide, by omega, by first | omega | (have := nx_in (l := A 18) (n := F 5) (a := F 6) (by omega); omega), fun q hq => by rw [rd_wr_n (by omega) (by omega) (by omega)], fun q hq => by rw [rd_wr_n (by omega) (by omega) (by omega)], fun _ _ => rfl, ?_, fun z => absurd z (by decide)⟩
                have ehw81 : b81 = 1 := by omega
                rw [ehw81] at hw81
                have hw81n : wD (A 18) (F 5) IFF (0, F 6) = (0, a81) := hw81
                have ehw91 : b91 = 1 := by omega
                rw [ehw91] at hw91
                have hw91n : wD (A 18) (F 5) ALIVE (0, a81) = (0, a91) := hw91
                have ehw93 : b93 = 0 := by omega
                rw [ehw93] at hw93
                have hw93n : dG (A 18) (F 5) 4 (0, a91 + 1) = ((1, a93), v93) := hw93
                have e2 : t2 (A 18) (F 5) (0, F 6) = ((0, a91), 2) := by
                  unfold t2
                  rw [hw81n]
                  rw [if_pos rfl]
                  unfold fD
                  (try dsimp only)
                  rw [if_pos (by omega), hw91n]
                have e3 : t3 (A 18) (F 5) (0, F 6) = (0, a91 + 1) := by
                  unfold t3
                  rw [e2]
                  rw [if_pos ⟨rfl, by (try dsimp only); omega⟩]
                have e4 : dG (A 18) (F 5) 4 (t3 (A 18) (F 5) (0, F 6)) = ((1, a93), v93) := by
                  rw [e3]
                  exact hw93n
                have eS : tS (A 18) (F 5) (0, F 6) = (1, a93) := by
                  unfold tS
                  rw [if_pos ⟨rfl, by (try dsimp only); omega⟩, e4]
                exact eS
            · refine R_s (P := True) (f' := (51, [some (vR 17), some (vR 65), some (vI x), some (vI (nx (A 18) (F 5) (a91)))], [vI 62, vI (nx (A 18) (F 5) (a91))], LAY (u (u (u A 72 (A 72)) 73 (A 73)) 71 (wr (A 71) x 3)) (u (u F 7 (F 7)) 6 a91), 0, 0)) hc44 2 rfl trivial ?_
              refine R_ic (t := 56) hc44 rfl rfl (fun (c15 : nx (A 18) (F 5) (a91) = 62) => ?_) (fun (c15 : ¬ (nx (A 18) (F 5) (a91) = 62)) => ?_)
              · refine R_s (P := (0 ≤ x ∧ x < ((A 72).length : Int)) ∧ inI (a91 + 1) ∧ True) (f' := (75, [some (vR 17), some (vR 65), some (vI x), some (vI (nx (A 18) (F 5) (a91)))], [vI 4, vR 17], LAY (u (u (u A 73 (A 73)) 71 (wr (A 71) x 3)) 72 (wr (A 72) x (nx (A 18) (F 5) (a91)))) (u (u F 7 (F 7)) 6 (a91 + 1)), 0, 0)) hc44 13 rfl ⟨⟨by omega, by omega⟩, ⟨by omega, by omega⟩, trivial⟩ ?_
                refine R_cv hc44 rfl rfl (l_numb (A := (u (u (u A 73 (A 73)) 71 (wr (A 71) x 3)) 72 (wr (A 72) x (nx (A 18) (F 5) (a91))))) (F := (u (u F 7 (F 7)) 6 (a91 + 1))) (LENS_u (LENS_u (LENS_u hL (by show (A 73).length = (A 73).length; omega)) (by show (wr (A 71) x 3).length = (A 71).length; simp only [wr_len])) (by show (wr (A 72) x (nx (A 18) (F 5) (a91))).length = (A 72).length; simp only [wr_len])) h5 ⟨by (show 0 ≤ a91 + 1); omega, by (have := nx_in (l := A 18) (n := F 5) (a := a91) (by omega)); (show a91 + 1 ≤ F 5); omega⟩ (kk := 4) (by decide) rfl) (fun r G9 hp9 => ?_)
                obtain ⟨b94, a94, v94, rfl, rfl, hb94, hw94, p94, q94, w94⟩ := hp9
                have p94 : 0 ≤ a94 := p94
                have q94 : a94 ≤ F 5 := q94
                refine R_s (f' := (78, [some (vR 17), some (vR 65), some (vI x), some (vI (nx (A 18) (F 5) (a91)))], [vI b94], LAY (u (u (u A 73 (A 73)) 71 (wr (A 71) x 3)) 72 (wr (A 72) x (nx (A 18) (F 5) (a91)))) (u (u F 6 a94) 7 v94), 0, 0)) hc44 0 rfl trivial ?_
                refine R_if (t := 83) hc44 rfl rfl (fun (c16 : ¬ b94 = 0) => ?_) (fun (c16 : ¬ (¬ b94 = 0)) => ?_)
                · refine R_s (P := (0 ≤ x ∧ x < ((A 73).length : Int)) ∧ True) (f' := (94, [some (vR 17), some (vR 65), some (vI x), some (vI (nx (A 18) (F 5) (a91)))], [vI 1], LAY (u (u (u A 71 (wr (A 71) x 3)) 72 (wr (A 72) x (nx (A 18) (F 5) (a91)))) 73 (wr (A 73) x v94)) (u (u F 6 a94) 7 v94), 0, 0)) hc44 7 rfl ⟨⟨by omega, by omega⟩, trivial⟩ ?_
                  refine R_retz hc44 rfl rfl (Or.inr rfl) ⟨1, wr (A 71) x 3, wr (A 72) x (nx (A 18) (F 5) (a91)), wr (A 73) x v94, a94, v94, rfl, rfl, (by (try simp only [wr_len]); omega), (by (try simp only [wr_len]); omega), (by (try simp only [wr_len]); omega), by decide, by omega, by first | omega | (have := nx_in (l := A 18) (n := F 5) (a := F 6) (by omega); omega), fun q hq => by rw [rd_wr_n (by omega) (by omega) (by omega)], fun q hq => by rw [rd_wr_n (by omega) (by omega) (by omega)], fun q hq => by rw [rd_wr_n (by omega) (by omega) (by omega)], ?_⟩
                  have ehw81 : b81 = 1 := by omega
                  rw [ehw81] at hw81
                  have hw81n : wD (A 18) (F 5) IFF (0, F 6) = (0, a81) := hw81
                  have ehw91 : b91 = 1 := by omega
                  rw [ehw91] at hw91
                  have hw91n : wD (A 18) (F 5) ALIVE (0, a81) = (0, a91) := hw91
                  have ehw94 : b94 = 1 := by omega
                  rw [ehw94] at hw94
                  have hw94n : dG (A 18) (F 5) 4 (0, a91 + 1) = ((0, a94), v94) := hw94
                  have e2 : t2 (A 18) (F 5) (0, F 6) = ((0, a91), 2) := by
                    unfold t2
                    rw [hw81n]
                    rw [if_pos rfl]
                    unfold fD
                    (try dsimp only)
                    rw [if_pos (by omega), hw91n]
                  have e3 : t3 (A 18) (F 5) (0, F 6) = (0, a91 + 1) := by
                    unfold t3
                    rw [e2]
                    rw [if_pos ⟨rfl, by (try dsimp only); omega⟩]
                  have e4 : dG (A 18) (F 5) 4 (t3 (A 18) (F 5) (0, F 6)) = ((0, a94), v94) := by
                    rw [e3]
                    exact hw94n
                  have eS : tS (A 18) (F 5) (0, F 6) = (0, a94) := by
                    unfold tS
                    rw [if_pos ⟨rfl, by (try dsimp only); omega⟩, e4]
                  have eF : tF (A 18) (F 5) (0, F 6) = 2 := by
                    unfold tF
                    rw [if_pos ⟨rfl, by (try dsimp only); omega⟩, e2]
                  have eG : tG (A 18) (F 5) (0, F 6) = nx (A 18) (F 5) (a91) := by
                    unfold tG
                    rw [e2]
                  have eH : tH (A 18) (F 5) (0, F 6) = v94 := by
                    unfold tH
                    rw [e4]
                  refine ⟨eS, fun _ => ⟨?_, .inr ⟨?_, ?_⟩⟩⟩
                  · rw [eF, ← ex, rd_wr_s (by omega) (by (try simp only [wr_len]); omega)]
                    decide
                  · rw [eG, ← ex, rd_wr_s (by omega) (by (try simp only [wr_len]); omega)]
                  · rw [eH, ← ex, rd_wr_s (by omega) (by (try simp only [wr_len]); omega)]
                · refine R_s (P := True) (f' := (82, [some (vR 17), some (vR 65), some (vI x), some (vI (nx (A 18) (F 5) (a91)))], [vI 0], LAY (u (u (u A 73 (A 73)) 71 (wr (A 71) x 3)) 72 (wr (A 72) x (nx (A 18) (F 5) (a91)))) (u (u F 6 a94) 7 v94), 0, 0)) hc44 1 rfl trivial ?_
                  refine R_retz hc44 rfl rfl (Or.inl rfl) ⟨0, wr (A 71) x 3, wr (A 72) x (nx (A 18) (F 5) (a91)), A 73, a94, v94, rfl, rfl, (by (try simp only [wr_len]); omega), (by (try simp only [wr_len]); omega), (by (try simp only [wr_len]); omega), by decide, by omega, by first | omega | (have := nx_in (l := A 18) (n := F 5) (a := F 6) (by omega); omega), fun q hq => by rw [rd_wr_n (by omega) (by omega) (by omega)], fun q hq => by rw [rd_wr_n (by omega) (by omega) (by omega)], fun _ _ => rfl, ?_, fun z => absurd z (by decide)⟩
                  have ehw81 : b81 = 1 := by omega
                  rw [ehw81] at hw81
                  have hw81n : wD (A 18) (F 5) IFF (0, F 6) = (0, a81) := hw81
                  have ehw91 : b91 = 1 := by omega
                  rw [ehw91] at hw91
                  have hw91n : wD (A 18) (F 5) ALIVE (0, a81) = (0, a91) := hw91
                  have ehw94 : b94 = 0 := by omega
                  rw [ehw94] at hw94
                  have hw94n : dG (A 18) (F 5) 4 (0, a91 + 1) = ((1, a94), v94) := hw94
                  have e2 : t2 (A 18) (F 5) (0, F 6) = ((0, a91), 2) := by
                    unfold t2
                    rw [hw81n]
                    rw [if_pos rfl]
                    unfold fD
                    (try dsimp only)
                    rw [if_pos (by omega), hw91n]
                  have e3 : t3 (A 18) (F 5) (0, F 6) = (0, a91 + 1) := by
                    unfold t3
                    rw [e2]
                    rw [if_pos ⟨rfl, by (try dsimp only); omega⟩]
                  have e4 : dG (A 18) (F 5) 4 (t3 (A 18) (F 5) (0, F 6)) = ((1, a94), v94) := by
                    rw [e3]
                    exact hw94n
                  have eS : tS (A 18) (F 5) (0, F 6) = (1, a94) := by
                    unfold tS
                    rw [if_pos ⟨rfl, by (try dsimp only); omega⟩, e4]
                  exact eS
              · refine R_s (P := True) (f' := (55, [some (vR 17), some (vR 65), some (vI x), some (vI (nx (A 18) (F 5) (a91)))], [vI 0], LAY (u (u (u A 72 (A 72)) 73 (A 73)) 71 (wr (A 71) x 3)) (u (u F 7 (F 7)) 6 a91), 0, 0)) hc44 1 rfl trivial ?_
                refine R_retz hc44 rfl rfl (Or.inl rfl) ⟨0, wr (A 71) x 3, A 72, A 73, a91, F 7, rfl, rfl, (by (try simp only [wr_len]); omega), (by (try simp only [wr_len]); omega), (by (try simp only [wr_len]); omega), by decide, by omega, by first | omega | (have := nx_in (l := A 18) (n := F 5) (a := F 6) (by omega); omega), fun q hq => by rw [rd_wr_n (by omega) (by omega) (by omega)], fun _ _ => rfl, fun _ _ => rfl, ?_, fun z => absurd z (by decide)⟩
                have ehw81 : b81 = 1 := by omega
                rw [ehw81] at hw81
                have hw81n : wD (A 18) (F 5) IFF (0, F 6) = (0, a81) := hw81
                have ehw91 : b91 = 1 := by omega
                rw [ehw91] at hw91
                have hw91n : wD (A 18) (F 5) ALIVE (0, a81) = (0, a91) := hw91
                have e2 : t2 (A 18) (F 5) (0, F 6) = ((0, a91), 2) := by
                  unfold t2
                  rw [hw81n]
                  rw [if_pos rfl]
                  unfold fD
                  (try dsimp only)
                  rw [if_pos (by omega), hw91n]
                have e3 : t3 (A 18) (F 5) (0, F 6) = (1, a91) := by
                  unfold t3
                  rw [e2]
                  rw [if_neg (fun z => by have := z.2; (try dsimp only at this); omega)]
                have e4 : dG (A 18) (F 5) 4 (t3 (A 18) (F 5) (0, F 6)) = ((1, a91), 0) := by rw [e3, dG_f]
                have eS : tS (A 18) (F 5) (0, F 6) = (1, a91) := by
                  unfold tS
                  rw [if_pos ⟨rfl, by (try dsimp only); omega⟩, e4]
                exact eS
        · refine R_s (P := True) (f' := (30, [some (vR 17), some (vR 65), some (vI x), none], [vI 0], LAY (u (u (u A 72 (A 72)) 73 (A 73)) 71 (wr (A 71) x 3)) (u (u F 7 (F 7)) 6 a91), 0, 0)) hc44 1 rfl trivial ?_
          refine R_retz hc44 rfl rfl (Or.inl rfl) ⟨0, wr (A 71) x 3, A 72, A 73, a91, F 7, rfl, rfl, (by (try simp only [wr_len]); omega), (by (try simp only [wr_len]); omega), (by (try simp only [wr_len]); omega), by decide, by omega, by first | omega | (have := nx_in (l := A 18) (n := F 5) (a := F 6) (by omega); omega), fun q hq => by rw [rd_wr_n (by omega) (by omega) (by omega)], fun _ _ => rfl, fun _ _ => rfl, ?_, fun z => absurd z (by decide)⟩
          have ehw81 : b81 = 1 := by omega
          rw [ehw81] at hw81
          have hw81n : wD (A 18) (F 5) IFF (0, F 6) = (0, a81) := hw81
          have ehw91 : b91 = 0 := by omega
          rw [ehw91] at hw91
          have hw91n : wD (A 18) (F 5) ALIVE (0, a81) = (1, a91) := hw91
          have e2 : t2 (A 18) (F 5) (0, F 6) = ((1, a91), 2) := by
            unfold t2
            rw [hw81n]
            rw [if_pos rfl]
            unfold fD
            (try dsimp only)
            rw [if_pos (by omega), hw91n]
          have e3 : t3 (A 18) (F 5) (0, F 6) = (1, a91) := by
            unfold t3
            rw [e2]
            rw [if_neg (fun z => absurd (show (1 : Int) = 0 from z.1) (by decide))]
          have e4 : dG (A 18) (F 5) 4 (t3 (A 18) (F 5) (0, F 6)) = ((1, a91), 0) := by rw [e3, dG_f]
          have eS : tS (A 18) (F 5) (0, F 6) = (1, a91) := by
            unfold tS
            rw [if_pos ⟨rfl, by (try dsimp only); omega⟩, e4]
          exact eS
  · refine R_s (P := True) (f' := (10, [some (vR 17), some (vR 65), some (vI x), none], [vI 1], LAY (u (u (u A 71 (A 71)) 72 (A 72)) 73 (A 73)) (u (u F 6 (F 6)) 7 (F 7)), 0, 0)) hc44 1 rfl trivial ?_
    refine R_retz hc44 rfl rfl (Or.inr rfl) ⟨1, A 71, A 72, A 73, F 6, F 7, rfl, rfl, (by (try simp only [wr_len]); omega), (by (try simp only [wr_len]); omega), (by (try simp only [wr_len]); omega), by decide, by omega, by first | omega | (have := nx_in (l := A 18) (n := F 5) (a := F 6) (by omega); omega), fun _ _ => rfl, fun _ _ => rfl, fun _ _ => rfl, ?_, fun _ => ⟨?_, .inl ?_⟩⟩
    · unfold tS
      rw [if_neg (fun z => by have := z.2; (try dsimp only at this); omega)]
      rfl
    all_goals have e9 : tF (A 18) (F 5) (0, F 6) = -1 := by (unfold tF; rw [if_neg (fun z => by have := z.2; (try dsimp only at this); omega)])
    · rw [e9]; omega
    · exact e9

theorem l_rrest5 {A : Nat → List Int} {F : Nat → Int} (hL : LENS A) (h5 : 0 ≤ F 5 ∧ F 5 ≤ 120) (h6 : 0 ≤ F 6 ∧ F 6 ≤ F 5) {x : Int} {i : Nat} (ex : x = (i : Int)) (hi : i < 6) : R 43 (0, L0 43 [vR 17, vR 65, vI x], [], LAY A F, 0, 0) (fun r G => ∃ (c : Int) (q0 q3 : List Int) (a v : Int), r = some (vI c) ∧ G = LAY (u (u A 66 q0) 69 q3) (u (u F 6 a) 7 v) ∧ q0.length = 6 ∧ q3.length = 6 ∧ (c = 0 ∨ c = 1) ∧ 0 ≤ a ∧ a ≤ F 5 ∧ (∀ q : Nat, q ≠ i → rd q0 q = rd (A 66) q) ∧ (∀ q : Nat, q ≠ i → rd q3 q = rd (A 69) q) ∧ (hS (A 18) (F 5) (wD (A 18) (F 5) REST (0, F 6))).1 = (1 - c, a) ∧ rd q0 i = 3 ∧ (c = 1 → rd q3 i = (hS (A 18) (F 5) (wD (A 18) (F 5) REST (0, F 6))).2)) := by
  have d0 : (A 66).length = 6 := hL 66 (by decide)
  have d1 : (A 67).length = 6 := hL 67 (by decide)
  have d2 : (A 68).length = 6 := hL 68 (by decide)
  have d3 : (A 69).length = 6 := hL 69 (by decide)
  have d4 : (A 70).length = 6 := hL 70 (by decide)
  have d5 : (A 71).length = 6 := hL 71 (by decide)
  have d6 : (A 72).length = 6 := hL 72 (by decide)
  have d7 : (A 73).length = 6 := hL 73 (by decide)
  refine R_s (P := True) (f' := (0, [some (vR 17), some (vR 65), some (vI x)], [], LAY (u (u A 66 (A 66)) 69 (A 69)) (u (u F 6 (F 6)) 7 (F 7)), 0, 0)) hc43 0 rfl trivial ?_
  refine R_s (P := (0 ≤ x ∧ x < ((A 66).length : Int)) ∧ True) (f' := (10, [some (vR 17), some (vR 65), some (vI x)], [vS 12, vR 17], LAY (u (u A 69 (A 69)) 66 (wr (A 66) x 3)) (u (u F 6 (F 6)) 7 (F 7)), 0, 0)) hc43 7 rfl ⟨⟨by omega, by omega⟩, trivial⟩ ?_
  refine R_cv hc43 rfl rfl (l_word12 (A := (u (u A 69 (A 69)) 66 (wr (A 66) x 3))) (F := (u (u F 6 (F 6)) 7 (F 7))) (LENS_u (LENS_u hL (by show (A 69).length = (A 69).length; omega)) (by show (wr (A 66) x 3).length = (A 66).length; simp only [wr_len])) h5 ⟨by (show 0 ≤ F 6); omega, by (show F 6 ≤ F 5); omega⟩) (fun r G9 hp9 => ?_)
  obtain ⟨b95, a95, rfl, rfl, hb95, hw95, p95, q95⟩ := hp9
  have p95 : 0 ≤ a95 := p95
  have q95 : a95 ≤ F 5 := q95
  refine R_s (f' := (13, [some (vR 17), some (vR 65), some (vI x)], [vI b95], LAY (u (u A 69 (A 69)) 66 (wr (A 66) x 3)) (u (u F 7 (F 7)) 6 a95), 0, 0)) hc43 0 rfl trivial ?_
  refine R_if (t := 29) hc43 rfl rfl (fun (c1 : b95 = 0) => ?_) (fun (c1 : ¬ (b95 = 0)) => ?_)
  · refine R_s (P := True) (f' := (30, [some (vR 17), some (vR 65), some (vI x)], [vI 0], LAY (u (u A 69 (A 69)) 66 (wr (A 66) x 3)) (u (u F 7 (F 7)) 6 a95), 0, 0)) hc43 1 rfl trivial ?_
    refine R_retz hc43 rfl rfl (Or.inl rfl) ⟨0, wr (A 66) x 3, A 69, a95, F 7, rfl, rfl, (by (try simp only [wr_len]); omega), (by (try simp only [wr_len]); omega), by decide, by omega, by omega, fun q hq => by rw [rd_wr_n (by omega) (by omega) (by omega)], fun _ _ => rfl, ?_⟩
    have ehw95 : b95 = 0 := by omega
    rw [ehw95] at hw95
    have hw95n : wD (A 18) (F 5) REST (0, F 6) = (1, a95) := hw95
    have eS : hS (A 18) (F 5) (wD (A 18) (F 5) REST (0, F 6)) = ((1, a95), 0) := by rw [hw95n, hS_f]
    exact ⟨by rw [eS]; rfl, by rw [← ex]; exact rd_wr_s (by omega) (by omega), fun z => absurd z (by decide)⟩
  · refine R_s (P := True) (f' := (19, [some (vR 17), some (vR 65), some (vI x)], [vI x, vR 65, vR 17], LAY (u (u A 69 (A 69)) 66 (wr (A 66) x 3)) (u (u F 7 (F 7)) 6 a95), 0, 0)) hc43 3 rfl trivial ?_
    refine R_cv hc43 rfl rfl (l_rhouse5 (A := (u (u A 69 (A 69)) 66 (wr (A 66) x 3))) (F := (u (u F 7 (F 7)) 6 a95)) (LENS_u (LENS_u hL (by show (A 69).length = (A 69).length; omega)) (by show (wr (A 66) x 3).length = (A 66).length; simp only [wr_len])) h5 ⟨by (show 0 ≤ a95); omega, by (show a95 ≤ F 5); omega⟩ ex hi) (fun r G9 hp9 => ?_)
    obtain ⟨b96, h3_96, a96, v96, rfl, rfl, l96, hb96, p96, q96, kp96, h96, hw96, hv96⟩ := hp9
    have q96 : a96 ≤ F 5 := q96
    have kp96 : ∀ q : Nat, q ≠ i → rd h3_96 q = rd (A 69) q := kp96
    refine R_s (f' := (22, [some (vR 17), some (vR 65), some (vI x)], [vI b96], LAY (u (u A 66 (wr (A 66) x 3)) 69 h3_96) (u (u F 6 a96) 7 v96), 0, 0)) hc43 0 rfl trivial ?_
    refine R_if (t := 29) hc43 rfl rfl (fun (c2 : b96 = 0) => ?_) (fun (c2 : ¬ (b96 = 0)) => ?_)
    · refine R_s (P := True) (f' := (30, [some (vR 17), some (vR 65), some (vI x)], [vI 0], LAY (u (u A 66 (wr (A 66) x 3)) 69 h3_96) (u (u F 6 a96) 7 v96), 0, 0)) hc43 1 rfl trivial ?_
      refine R_retz hc43 rfl rfl (Or.inl rfl) ⟨0, wr (A 66) x 3, h3_96, a96, v96, rfl, rfl, (by (try simp only [wr_len]); omega), (by (try simp only [wr_len]); omega), by decide, by omega, by omega, fun q hq => by rw [rd_wr_n (by omega) (by omega) (by omega)], fun q hq => by rw [kp96 q hq], ?_⟩
      have ehw95 : b95 = 1 := by omega
      rw [ehw95] at hw95
      have hw95n : wD (A 18) (F 5) REST (0, F 6) = (0, a95) := hw95
      have ehw96 : b96 = 0 := by omega
      rw [ehw96] at hw96
      have hw96n : hS (A 18) (F 5) (0, a95) = ((1, a96), h96) := hw96
      have eS : hS (A 18) (F 5) (wD (A 18) (F 5) REST (0, F 6)) = ((1, a96), h96) := by rw [hw95n, hw96n]
      exact ⟨by rw [eS]; rfl, by rw [← ex]; exact rd_wr_s (by omega) (by omega), fun z => absurd z (by decide)⟩
    · refine R_s (P := True) (f' := (30, [some (vR 17), some (vR 65), some (vI x)], [vI 1], LAY (u (u A 66 (wr (A 66) x 3)) 69 h3_96) (u (u F 6 a96) 7 v96), 0, 0)) hc43 2 rfl trivial ?_
      refine R_retz hc43 rfl rfl (Or.inr rfl) ⟨1, wr (A 66) x 3, h3_96, a96, v96, rfl, rfl, (by (try simp only [wr_len]); omega), (by (try simp only [wr_len]); omega), by decide, by omega, by omega, fun q hq => by rw [rd_wr_n (by omega) (by omega) (by omega)], fun q hq => by rw [kp96 q hq], ?_⟩
      have ehw95 : b95 = 1 := by omega
      rw [ehw95] at hw95
      have hw95n : wD (A 18) (F 5) REST (0, F 6) = (0, a95) := hw95
      have ehw96 : b96 = 1 := by omega
      rw [ehw96] at hw96
      have hw96n : hS (A 18) (F 5) (0, a95) = ((0, a96), h96) := hw96
      have eS : hS (A 18) (F 5) (wD (A 18) (F 5) REST (0, F 6)) = ((0, a96), h96) := by rw [hw95n, hw96n]
      exact ⟨by rw [eS]; rfl, by rw [← ex]; exact rd_wr_s (by omega) (by omega), fun _ => by rw [eS]; exact hv96 (by omega)⟩

