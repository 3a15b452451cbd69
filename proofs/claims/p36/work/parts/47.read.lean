/-- the letter's kind; the pieces of an end -/
def eK (l : List Int) (n : Int) (i : Nat) (s : Int × Int) : Int := if nx l n s.2 = 102 ∧ i < 5 then 0 else if nx l n s.2 = 108 ∧ i < 5 then 1 else if nx l n s.2 = 109 ∧ i = 0 then 2 else 3
def pN (l : List Int) (n : Int) (w : List Int) (s : Int × Int) : (Int × Int) × Int := dG l n 4 (wD l n w s)
def pR (l : List Int) (n : Int) (w : List Int) (s : Int × Int) : (Int × Int) × Int := dG l n 2 (wD l n PP (pN l n w s).1)
def pL (l : List Int) (n : Int) (s : Int × Int) : Int × Int := wD l n SPC (pR l n LINE s).1
def pH (l : List Int) (n : Int) (s : Int × Int) : (Int × Int) × Int := hS l n (wD l n SPC (pN l n FIX s).1)
/-- the state ahead of an end's test; behind the end -/
def tB (l : List Int) (n : Int) (i : Nat) (s : Int × Int) : Int × Int := if eK l n i s = 0 then (pH l n s).1 else if eK l n i s = 1 then (if nx l n (pL l n s).2 = 115 then wD l n STEM (pL l n s) else wD l n HEADS (pL l n s)) else (pR l n MAN s).1
def eN (l : List Int) (n : Int) (i : Nat) (s : Int × Int) : Int × Int := if eK l n i s = 3 then (hS l n (wD l n REST s)).1 else tS l n (tB l n i s)
def eV (l : List Int) (n : Int) (i : Nat) (s : Int × Int) (k nu ro ho he fi si th : Int) : Prop :=
  k = eK l n i s ∧ (k = 0 → nu = (pN l n FIX s).2 ∧ ho = (pH l n s).2) ∧ (k = 1 → nu = (pN l n LINE s).2 ∧ ro = (pR l n LINE s).2 ∧ he = (if nx l n (pL l n s).2 = 115 then 0 else 1)) ∧
  (k = 2 → nu = (pN l n MAN s).2 ∧ ro = (pR l n MAN s).2) ∧ (k = 3 → ho = (hS l n (wD l n REST s)).2 ∧ fi = 0) ∧
  (k ≠ 3 → fi = tF l n (tB l n i s) + 1 ∧ (fi = 0 ∨ (si = tG l n (tB l n i s) ∧ th = tH l n (tB l n i s))))
theorem eN_0 {l : List Int} {n : Int} {i : Nat} {s : Int × Int} (h : eK l n i s = 0) : eN l n i s = tS l n (tB l n i s) ∧ tB l n i s = (pH l n s).1 := by
  unfold eN tB
  rw [if_neg (by omega), if_pos h]
  exact ⟨rfl, rfl⟩
theorem eN_1 {l : List Int} {n : Int} {i : Nat} {s : Int × Int} (h : eK l n i s = 1) : eN l n i s = tS l n (tB l n i s) ∧ tB l n i s = if nx l n (pL l n s).2 = 115 then wD l n STEM (pL l n s) else wD l n HEADS (pL l n s) := by
  unfold eN tB
  rw [if_neg (by omega), if_neg (by omega), if_pos h]
  exact ⟨rfl, rfl⟩
theorem eN_2 {l : List Int} {n : Int} {i : Nat} {s : Int × Int} (h : eK l n i s = 2) : eN l n i s = tS l n (tB l n i s) ∧ tB l n i s = (pR l n MAN s).1 := by
  unfold eN tB
  rw [if_neg (by omega), if_neg (by omega), if_neg (by omega)]
  exact ⟨rfl, rfl⟩
theorem eN_3 {l : List Int} {n : Int} {i : Nat} {s : Int × Int} (h : eK l n i s = 3) : eN l n i s = (hS l n (wD l n REST s)).1 := by
  unfold eN
  rw [if_pos h]
theorem eK_5 {l : List Int} {n : Int} {s : Int × Int} : eK l n 5 s = 3 := by
  unfold eK
  rw [if_neg (fun z => absurd z.2 (by decide)), if_neg (fun z => absurd z.2 (by decide)), if_neg (fun z => absurd z.2 (by decide))]
theorem eK_c {l : List Int} {n : Int} {i : Nat} {s : Int × Int} : eK l n i s = 0 ∨ eK l n i s = 1 ∨ (eK l n i s = 2 ∧ i = 0) ∨ eK l n i s = 3 := by
  unfold eK
  split
  · exact .inl rfl
  · split
    · exact .inr (.inl rfl)
    · split
      · rename_i q
        exact .inr (.inr (.inl ⟨rfl, q.2⟩))
      · exact .inr (.inr (.inr rfl))
/-- the states of the ends; how a tape is read as a whole -/
def sT (l : List Int) (n : Int) : Nat → Int × Int
  | 0 => (0, 0)
  | i + 1 => wD l n SEMI (eN l n i (sT l n i))
def gO (l : List Int) (n : Int) (i : Nat) : Prop := ∀ j, j < i → (eN l n j (sT l n j)).1 = 0 ∧ eK l n j (sT l n j) ≠ 3 ∧ (sT l n (j + 1)).1 = 0
def fAIL (l : List Int) (n : Int) (p : Int) : Prop := ∃ i, i < 6 ∧ gO l n i ∧ (((eN l n i (sT l n i)).1 ≠ 0 ∧ p = (eN l n i (sT l n i)).2) ∨ ((eN l n i (sT l n i)).1 = 0 ∧ eK l n i (sT l n i) = 3 ∧ (eN l n i (sT l n i)).2 ≠ n ∧ p = (eN l n i (sT l n i)).2) ∨ ((eN l n i (sT l n i)).1 = 0 ∧ eK l n i (sT l n i) ≠ 3 ∧ (sT l n (i + 1)).1 ≠ 0 ∧ p = (sT l n (i + 1)).2))
def sUCC (l : List Int) (n : Int) (e : Nat) : Prop := ∃ i, e = i + 1 ∧ i < 6 ∧ gO l n i ∧ eN l n i (sT l n i) = (0, n) ∧ eK l n i (sT l n i) = 3
theorem gO_lt {l : List Int} {n : Int} {i j : Nat} (h : gO l n i) (h2 : ¬ gO l n (j + 1)) : i ≤ j := by
  refine Classical.byContradiction (fun q => h2 (fun k hk => h k (by omega)))
theorem fAIL_not {l : List Int} {n p : Int} {i : Nat} (h : ((eN l n i (sT l n i)).1 ≠ 0 ∧ p = (eN l n i (sT l n i)).2) ∨ ((eN l n i (sT l n i)).1 = 0 ∧ eK l n i (sT l n i) = 3 ∧ (eN l n i (sT l n i)).2 ≠ n ∧ p = (eN l n i (sT l n i)).2) ∨ ((eN l n i (sT l n i)).1 = 0 ∧ eK l n i (sT l n i) ≠ 3 ∧ (sT l n (i + 1)).1 ≠ 0 ∧ p = (sT l n (i + 1)).2)) : ¬ gO l n (i + 1) := fun q => by
  have z := q i (by omega)
  rcases h with h | h | h
  · exact h.1 z.1
  · exact z.2.1 h.2.1
  · exact h.2.2.1 z.2.2
theorem fAIL_eq {l : List Int} {n p p' : Int} (h : fAIL l n p) (h' : fAIL l n p') : p = p' := by
  obtain ⟨i, h1, h2, h3⟩ := h
  obtain ⟨j, h4, h5, h6⟩ := h'
  have e1 := gO_lt h2 (fAIL_not h6)
  have e2 := gO_lt h5 (fAIL_not h3)
  have e : i = j := by omega
  subst e
  rcases h3 with h | h | h <;> rcases h6 with q | q | q
  · rw [h.2, q.2]
  · exact absurd q.1 h.1
  · exact absurd q.1 h.1
  · exact absurd h.1 q.1
  · rw [h.2.2.2, q.2.2.2]
  · exact absurd h.2.1 q.2.1
  · exact absurd h.1 q.1
  · exact absurd q.2.1 h.2.1
  · rw [h.2.2.2, q.2.2.2]
theorem sUCC_not {l : List Int} {n : Int} {i : Nat} (h : eK l n i (sT l n i) = 3) : ¬ gO l n (i + 1) := fun q => (q i (by omega)).2.1 h
theorem sUCC_fAIL {l : List Int} {n p : Int} {e : Nat} (h : sUCC l n e) (h' : fAIL l n p) : False := by
  obtain ⟨i, h0, h1, h2, h3, h3b⟩ := h
  obtain ⟨j, h4, h5, h6⟩ := h'
  have e1 := gO_lt h2 (fAIL_not h6)
  have e2 := gO_lt h5 (sUCC_not h3b)
  have e : i = j := by omega
  subst e
  rw [h3] at h6
  rcases h6 with q | q | q
  · exact q.1 rfl
  · exact q.2.2.1 rfl
  · exact q.2.1 h3b
theorem sUCC_eq {l : List Int} {n : Int} {e e' : Nat} (h : sUCC l n e) (h' : sUCC l n e') : e = e' := by
  obtain ⟨i, h0, h1, h2, h3, h3b⟩ := h
  obtain ⟨j, h4, h5, h6, h7, h7b⟩ := h'
  have e1 := gO_lt h2 (sUCC_not h7b)
  have e2 := gO_lt h6 (sUCC_not h3b)
  omega
theorem hS_bd {l : List Int} {n : Int} {s : Int × Int} : 0 ≤ (hS l n s).2 ∧ (hS l n s).2 < 8 := by
  unfold hS
  split
  · (try dsimp only)
    omega
  · exact ⟨(show (0 : Int) ≤ 0 by decide), (show (0 : Int) < 8 by decide)⟩
theorem fD_c {l : List Int} {n : Int} {s : Int × Int} : (fD l n s).2 = 0 ∨ (fD l n s).2 = 1 ∨ (fD l n s).2 = 2 := by
  unfold fD
  split
  · exact .inr (.inr rfl)
  · split
    · exact .inl rfl
    · exact .inr (.inl rfl)
theorem tF_c {l : List Int} {n : Int} {s : Int × Int} : -1 ≤ tF l n s ∧ tF l n s ≤ 2 := by
  unfold tF
  split
  · unfold t2
    split
    · have := fD_c (l := l) (n := n) (s := wD l n IFF s)
      omega
    · (try dsimp only)
      omega
  · omega
theorem tG_c {l : List Int} {n : Int} {s : Int × Int} (h : (tS l n s).1 = 0) (h2 : tF l n s ≠ -1) : tG l n s = 61 ∨ tG l n s = 60 ∨ tG l n s = 62 := by
  unfold tF at h2
  unfold tS at h
  by_cases q : s.1 = 0 ∧ nx l n s.2 = 32
  · rw [if_pos q] at h
    refine Classical.byContradiction (fun z => ?_)
    have e : t3 l n s = (1, (t2 l n s).1.2) := by
      unfold t3
      rw [if_neg (fun w => z w.2)]
    rw [e, dG_f] at h
    exact absurd (show (1 : Int) = 0 from h) (by decide)
  · rw [if_neg q] at h2
    exact absurd rfl h2
theorem l_rhouse0 {A : Nat → List Int} {F : Nat → Int} (hL : LENS A) (h5 : 0 ≤ F 5 ∧ F 5 ≤ 120) (h6 : 0 ≤ F 6 ∧ F 6 ≤ F 5) {x : Int} {i : Nat} (ex : x = (i : Int)) (hi : i < 6) : R 46 (0, L0 46 [vR 17, vR 20, vI x], [], LAY A F, 0, 0) (fun r G => ∃ (c : Int) (q3 : List Int) (a v : Int), r = some (vI c) ∧ G = LAY (u A 24 q3) (u (u F 6 a) 7 v) ∧ q3.length = 6 ∧ (c = 0 ∨ c = 1) ∧ 0 ≤ a ∧ a ≤ F 5 ∧ (∀ q : Nat, q ≠ i → rd q3 q = rd (A 24) q) ∧ ∃ h, hS (A 18) (F 5) (0, F 6) = ((1 - c, a), h) ∧ (c = 1 → rd q3 i = h)) := by
  have d0 : (A 21).length = 6 := hL 21 (by decide)
  have d1 : (A 22).length = 6 := hL 22 (by decide)
  have d2 : (A 23).length = 6 := hL 23 (by decide)
  have d3 : (A 24).length = 6 := hL 24 (by decide)
  have d4 : (A 25).length = 6 := hL 25 (by decide)
  have d5 : (A 26).length = 6 := hL 26 (by decide)
  have d6 : (A 27).length = 6 := hL 27 (by decide)
  have d7 : (A 28).length = 6 := hL 28 (by decide)
  refine R_s (P := True) (f' := (0, [some (vR 17), some (vR 20), some (vI x), none], [], LAY (u A 24 (A 24)) (u (u F 6 (F 6)) 7 (F 7)), 0, 0)) hc46 0 rfl trivial ?_
  refine R_s (P := True) (f' := (1, [some (vR 17), some (vR 20), some (vI x), none], [vR 17], LAY (u A 24 (A 24)) (u (u F 6 (F 6)) 7 (F 7)), 0, 0)) hc46 1 rfl trivial ?_
  refine R_cv hc46 rfl rfl (l_next (A := (u A 24 (A 24))) (F := (u (u F 6 (F 6)) 7 (F 7))) (LENS_u hL (by show (A 24).length = (A 24).length; omega)) h5 ⟨by (show 0 ≤ F 6); omega, by (show F 6 ≤ F 5); omega⟩) (fun r G9 hp9 => ?_)
  obtain ⟨e1, rfl⟩ := hp9
  have e2 : r = some (vI (nx (A 18) (F 5) (F 6))) := e1
  clear e1
  subst e2
  refine R_s (f' := (4, [some (vR 17), some (vR 20), some (vI x), none], [vI (nx (A 18) (F 5) (F 6))], LAY (u A 24 (A 24)) (u (u F 6 (F 6)) 7 (F 7)), 0, 0)) hc46 0 rfl trivial ?_
  refine R_s (P := True) (f' := (8, [some (vR 17), some (vR 20), some (vI x), some (vI (nx (A 18) (F 5) (F 6)))], [vI 97, vI (nx (A 18) (F 5) (F 6))], LAY (u A 24 (A 24)) (u (u F 6 (F 6)) 7 (F 7)), 0, 0)) hc46 3 rfl trivial ?_
  refine R_ic (t := 17) hc46 rfl rfl (fun (c1 : nx (A 18) (F 5) (F 6) < 97) => ?_) (fun (c1 : ¬ (nx (A 18) (F 5) (F 6) < 97)) => ?_)
  · refine R_s (P := True) (f' := (18, [some (vR 17), some (vR 20), some (vI x), some (vI (nx (A 18) (F 5) (F 6)))], [vI 0], LAY (u A 24 (A 24)) (u (u F 6 (F 6)) 7 (F 7)), 0, 0)) hc46 1 rfl trivial ?_
    refine R_retz hc46 rfl rfl (Or.inl rfl) ⟨0, A 24, F 6, F 7, rfl, rfl, (by (try simp only [wr_len]); omega), by decide, by omega, by omega, fun _ _ => rfl, 0, ?_, fun z => absurd z (by decide)⟩
    unfold hS
    (try dsimp only)
    rw [if_neg (fun z => by omega)]
    rfl
  · refine R_s (P := True) (f' := (14, [some (vR 17), some (vR 20), some (vI x), some (vI (nx (A 18) (F 5) (F 6)))], [vI 105, vI (nx (A 18) (F 5) (F 6))], LAY (u A 24 (A 24)) (u (u F 6 (F 6)) 7 (F 7)), 0, 0)) hc46 2 rfl trivial ?_
    refine R_ic (t := 19) hc46 rfl rfl (fun (c2 : nx (A 18) (F 5) (F 6) < 105) => ?_) (fun (c2 : ¬ (nx (A 18) (F 5) (F 6) < 105)) => ?_)
    · refine R_s (P := inI ((nx (A 18) (F 5) (F 6)) - 97) ∧ (0 ≤ x ∧ x < ((A 24).length : Int)) ∧ inI ((F 6) + 1) ∧ True) (f' := (40, [some (vR 17), some (vR 20), some (vI x), some (vI (nx (A 18) (F 5) (F 6)))], [vI 1], LAY (u A 24 (wr (A 24) x ((nx (A 18) (F 5) (F 6)) - 97))) (u (u F 7 (F 7)) 6 ((F 6) + 1)), 0, 0)) hc46 14 rfl ⟨⟨by omega, by omega⟩, ⟨by omega, by omega⟩, ⟨by omega, by omega⟩, trivial⟩ ?_
      refine R_retz hc46 rfl rfl (Or.inr rfl) ⟨1, wr (A 24) x ((nx (A 18) (F 5) (F 6)) - 97), (F 6) + 1, F 7, rfl, rfl, (by (try simp only [wr_len]); omega), by decide, by omega, by have := nx_in (l := A 18) (n := F 5) (a := F 6) (by omega); omega, fun q hq => by rw [rd_wr_n (by omega) (by omega) (by omega)], nx (A 18) (F 5) (F 6) - 97, ?_, fun _ => by rw [← ex]; exact rd_wr_s (by omega) (by omega)⟩
      unfold hS
      (try dsimp only)
      rw [if_pos ⟨rfl, by omega, by omega⟩]
      rfl
    · refine R_s (P := True) (f' := (18, [some (vR 17), some (vR 20), some (vI x), some (vI (nx (A 18) (F 5) (F 6)))], [vI 0], LAY (u A 24 (A 24)) (u (u F 6 (F 6)) 7 (F 7)), 0, 0)) hc46 1 rfl trivial ?_
      refine R_retz hc46 rfl rfl (Or.inl rfl) ⟨0, A 24, F 6, F 7, rfl, rfl, (by (try simp only [wr_len]); omega), by decide, by omega, by omega, fun _ _ => rfl, 0, ?_, fun z => absurd z (by decide)⟩
      unfold hS
      (try dsimp only)
      rw [if_neg (fun z => by omega)]
      rfl
theorem l_rtest0 {A : Nat → List Int} {F : Nat → Int} (hL : LENS A) (h5 : 0 ≤ F 5 ∧ F 5 ≤ 120) (h6 : 0 ≤ F 6 ∧ F 6 ≤ F 5) {x : Int} {i : Nat} (ex : x = (i : Int)) (hi : i < 6) (hf0 : rd (A 26) i = 0) : R 44 (0, L0 44 [vR 17, vR 20, vI x], [], LAY A F, 0, 0) (fun r G => ∃ (c : Int) (q5 q6 q7 : List Int) (a v : Int), r = some (vI c) ∧ G = LAY (u (u (u A 26 q5) 27 q6) 28 q7) (u (u F 6 a) 7 v) ∧ q5.length = 6 ∧ q6.length = 6 ∧ q7.length = 6 ∧ (c = 0 ∨ c = 1) ∧ 0 ≤ a ∧ a ≤ F 5 ∧ (∀ q : Nat, q ≠ i → rd q5 q = rd (A 26) q) ∧ (∀ q : Nat, q ≠ i → rd q6 q = rd (A 27) q) ∧ (∀ q : Nat, q ≠ i → rd q7 q = rd (A 28) q) ∧ tS (A 18) (F 5) (0, F 6) = (1 - c, a) ∧ (c = 1 → rd q5 i = tF (A 18) (F 5) (0, F 6) + 1 ∧ (tF (A 18) (F 5) (0, F 6) = -1 ∨ (rd q6 i = tG (A 18) (F 5) (0, F 6) ∧ rd q7 i = tH (A 18) (F 5) (0, F 6))))) := by
  have d0 : (A 21).length = 6 := hL 21 (by decide)
  have d1 : (A 22).length = 6 := hL 22 (by decide)
  have d2 : (A 23).length = 6 := hL 23 (by decide)
  have d3 : (A 24).length = 6 := hL 24 (by decide)
  have d4 : (A 25).length = 6 := hL 25 (by decide)
  have d5 : (A 26).length = 6 := hL 26 (by decide)
  have d6 : (A 27).length = 6 := hL 27 (by decide)
  have d7 : (A 28).length = 6 := hL 28 (by decide)
  refine R_s (P := True) (f' := (0, [some (vR 17), some (vR 20), some (vI x), none], [], LAY (u (u (u A 26 (A 26)) 27 (A 27)) 28 (A 28)) (u (u F 6 (F 6)) 7 (F 7)), 0, 0)) hc44 0 rfl trivial ?_
  refine R_s (P := True) (f' := (1, [some (vR 17), some (vR 20), some (vI x), none], [vR 17], LAY (u (u (u A 26 (A 26)) 27 (A 27)) 28 (A 28)) (u (u F 6 (F 6)) 7 (F 7)), 0, 0)) hc44 1 rfl trivial ?_
  refine R_cv hc44 rfl rfl (l_next (A := (u (u (u A 26 (A 26)) 27 (A 27)) 28 (A 28))) (F := (u (u F 6 (F 6)) 7 (F 7))) (LENS_u (LENS_u (LENS_u hL (by show (A 26).length = (A 26).length; omega)) (by show (A 27).length = (A 27).length; omega)) (by show (A 28).length = (A 28).length; omega)) h5 ⟨by (show 0 ≤ F 6); omega, by (show F 6 ≤ F 5); omega⟩) (fun r G9 hp9 => ?_)
  obtain ⟨e1, rfl⟩ := hp9
  have e2 : r = some (vI (nx (A 18) (F 5) (F 6))) := e1
  clear e1
  subst e2
  refine R_s (f' := (4, [some (vR 17), some (vR 20), some (vI x), none], [vI (nx (A 18) (F 5) (F 6))], LAY (u (u (u A 26 (A 26)) 27 (A 27)) 28 (A 28)) (u (u F 6 (F 6)) 7 (F 7)), 0, 0)) hc44 0 rfl trivial ?_
  refine R_s (P := True) (f' := (6, [some (vR 17), some (vR 20), some (vI x), none], [vI 32, vI (nx (A 18) (F 5) (F 6))], LAY (u (u (u A 26 (A 26)) 27 (A 27)) 28 (A 28)) (u (u F 6 (F 6)) 7 (F 7)), 0, 0)) hc44 1 rfl trivial ?_
  refine R_ic (t := 11) hc44 rfl rfl (fun (c1 : nx (A 18) (F 5) (F 6) = 32) => ?_) (fun (c1 : ¬ (nx (A 18) (F 5) (F 6) = 32)) => ?_)
  · refine R_s (P := True) (f' := (14, [some (vR 17), some (vR 20), some (vI x), none], [vS 2, vR 17], LAY (u (u (u A 26 (A 26)) 27 (A 27)) 28 (A 28)) (u (u F 6 (F 6)) 7 (F 7)), 0, 0)) hc44 2 rfl trivial ?_
    refine R_cv hc44 rfl rfl (l_word2 (A := (u (u (u A 26 (A 26)) 27 (A 27)) 28 (A 28))) (F := (u (u F 6 (F 6)) 7 (F 7))) (LENS_u (LENS_u (LENS_u hL (by show (A 26).length = (A 26).length; omega)) (by show (A 27).length = (A 27).length; omega)) (by show (A 28).length = (A 28).length; omega)) h5 ⟨by (show 0 ≤ F 6); omega, by (show F 6 ≤ F 5); omega⟩) (fun r G9 hp9 => ?_)
    obtain ⟨b1, a1, rfl, rfl, hb1, hw1, p1, q1⟩ := hp9
    have p1 : 0 ≤ a1 := p1
    have q1 : a1 ≤ F 5 := q1
    refine R_s (f' := (17, [some (vR 17), some (vR 20), some (vI x), none], [vI b1], LAY (u (u (u A 26 (A 26)) 27 (A 27)) 28 (A 28)) (u (u F 7 (F 7)) 6 a1), 0, 0)) hc44 0 rfl trivial ?_
    refine R_if (t := 29) hc44 rfl rfl (fun (c2 : b1 = 0) => ?_) (fun (c2 : ¬ (b1 = 0)) => ?_)
    · refine R_s (P := True) (f' := (30, [some (vR 17), some (vR 20), some (vI x), none], [vI 0], LAY (u (u (u A 26 (A 26)) 27 (A 27)) 28 (A 28)) (u (u F 7 (F 7)) 6 a1), 0, 0)) hc44 1 rfl trivial ?_
      refine R_retz hc44 rfl rfl (Or.inl rfl) ⟨0, A 26, A 27, A 28, a1, F 7, rfl, rfl, (by (try simp only [wr_len]); omega), (by (try simp only [wr_len]); omega), (by (try simp only [wr_len]); omega), by decide, by omega, by first | omega | (have := nx_in (l := A 18) (n := F 5) (a := F 6) (by omega); omega), fun _ _ => rfl, fun _ _ => rfl, fun _ _ => rfl, ?_, fun z => absurd z (by decide)⟩
      have ehw1 : b1 = 0 := by omega
      rw [ehw1] at hw1
      have hw1n : wD (A 18) (F 5) IFF (0, F 6) = (1, a1) := hw1
      have e2 : t2 (A 18) (F 5) (0, F 6) = ((1, a1), 0) := by
        unfold t2
        rw [hw1n]
        rw [if_neg (show ¬ (1 : Int) = 0 by decide)]
      have e3 : t3 (A 18) (F 5) (0, F 6) = (1, a1) := by
        unfold t3
        rw [e2]
        rw [if_neg (fun z => absurd (show (1 : Int) = 0 from z.1) (by decide))]
      have e4 : dG (A 18) (F 5) 4 (t3 (A 18) (F 5) (0, F 6)) = ((1, a1), 0) := by rw [e3, dG_f]
      have eS : tS (A 18) (F 5) (0, F 6) = (1, a1) := by
        unfold tS
        rw [if_pos ⟨rfl, by (try dsimp only); omega⟩, e4]
      exact eS
    · refine R_s (P := True) (f' := (23, [some (vR 17), some (vR 20), some (vI x), none], [vI x, vR 20, vR 17], LAY (u (u (u A 26 (A 26)) 27 (A 27)) 28 (A 28)) (u (u F 7 (F 7)) 6 a1), 0, 0)) hc44 3 rfl trivial ?_
      refine R_cv hc44 rfl rfl ?_ (fun r G h => h)
      refine R_s (P := True) (f' := (1, [some (vR 17), some (vR 20), some (vI x), none], [vR 17], LAY (u (u (u A 26 (A 26)) 27 (A 27)) 28 (A 28)) (u (u F 7 (F 7)) 6 a1), 0, 0)) hc45 1 rfl trivial ?_
      refine R_cv hc45 rfl rfl (l_next (A := (u (u (u A 26 (A 26)) 27 (A 27)) 28 (A 28))) (F := (u (u F 7 (F 7)) 6 a1)) (LENS_u (LENS_u (LENS_u hL (by show (A 26).length = (A 26).length; omega)) (by show (A 27).length = (A 27).length; omega)) (by show (A 28).length = (A 28).length; omega)) h5 ⟨by (show 0 ≤ a1); omega, by (show a1 ≤ F 5); omega⟩) (fun r G9 hp9 => ?_)
      obtain ⟨e1, rfl⟩ := hp9
      have e2 : r = some (vI (nx (A 18) (F 5) (a1))) := e1
      clear e1
      subst e2
      refine R_s (f' := (4, [some (vR 17), some (vR 20), some (vI x), none], [vI (nx (A 18) (F 5) (a1))], LAY (u (u (u A 26 (A 26)) 27 (A 27)) 28 (A 28)) (u (u F 7 (F 7)) 6 a1), 0, 0)) hc45 0 rfl trivial ?_
      refine R_s (P := True) (f' := (6, [some (vR 17), some (vR 20), some (vI x), none], [vI 97, vI (nx (A 18) (F 5) (a1))], LAY (u (u (u A 26 (A 26)) 27 (A 27)) 28 (A 28)) (u (u F 7 (F 7)) 6 a1), 0, 0)) hc45 1 rfl trivial ?_
      refine R_ic (t := 23) hc45 rfl rfl (fun (c3 : ¬ nx (A 18) (F 5) (a1) = 97) => ?_) (fun (c3 : ¬ (¬ nx (A 18) (F 5) (a1) = 97)) => ?_)
      · refine R_s (P := True) (f' := (26, [some (vR 17), some (vR 20), some (vI x), none], [vS 4, vR 17], LAY (u (u (u A 26 (A 26)) 27 (A 27)) 28 (A 28)) (u (u F 7 (F 7)) 6 a1), 0, 0)) hc45 2 rfl trivial ?_
        refine R_cv hc45 rfl rfl (l_word4 (A := (u (u (u A 26 (A 26)) 27 (A 27)) 28 (A 28))) (F := (u (u F 7 (F 7)) 6 a1)) (LENS_u (LENS_u (LENS_u hL (by show (A 26).length = (A 26).length; omega)) (by show (A 27).length = (A 27).length; omega)) (by show (A 28).length = (A 28).length; omega)) h5 ⟨by (show 0 ≤ a1); omega, by (show a1 ≤ F 5); omega⟩) (fun r G9 hp9 => ?_)
        obtain ⟨b2, a2, rfl, rfl, hb2, hw2, p2, q2⟩ := hp9
        have p2 : 0 ≤ a2 := p2
        have q2 : a2 ≤ F 5 := q2
        refine R_s (f' := (29, [some (vR 17), some (vR 20), some (vI x), none], [vI b2], LAY (u (u (u A 26 (A 26)) 27 (A 27)) 28 (A 28)) (u (u F 7 (F 7)) 6 a2), 0, 0)) hc45 0 rfl trivial ?_
        refine R_if (t := 34) hc45 rfl rfl (fun (c4 : ¬ b2 = 0) => ?_) (fun (c4 : ¬ (¬ b2 = 0)) => ?_)
        · refine R_s (P := True) (f' := (35, [some (vR 17), some (vR 20), some (vI x), none], [vR 17], LAY (u (u (u A 26 (A 26)) 27 (A 27)) 28 (A 28)) (u (u F 7 (F 7)) 6 a2), 0, 0)) hc45 1 rfl trivial ?_
          refine R_cv hc45 rfl rfl (l_next (A := (u (u (u A 26 (A 26)) 27 (A 27)) 28 (A 28))) (F := (u (u F 7 (F 7)) 6 a2)) (LENS_u (LENS_u (LENS_u hL (by show (A 26).length = (A 26).length; omega)) (by show (A 27).length = (A 27).length; omega)) (by show (A 28).length = (A 28).length; omega)) h5 ⟨by (show 0 ≤ a2); omega, by (show a2 ≤ F 5); omega⟩) (fun r G9 hp9 => ?_)
          obtain ⟨e1, rfl⟩ := hp9
          have e2 : r = some (vI (nx (A 18) (F 5) (a2))) := e1
          clear e1
          subst e2
          refine R_s (f' := (38, [some (vR 17), some (vR 20), some (vI x), none], [vI (nx (A 18) (F 5) (a2))], LAY (u (u (u A 26 (A 26)) 27 (A 27)) 28 (A 28)) (u (u F 7 (F 7)) 6 a2), 0, 0)) hc45 0 rfl trivial ?_
          refine R_s (P := True) (f' := (40, [some (vR 17), some (vR 20), some (vI x), none], [vI 101, vI (nx (A 18) (F 5) (a2))], LAY (u (u (u A 26 (A 26)) 27 (A 27)) 28 (A 28)) (u (u F 7 (F 7)) 6 a2), 0, 0)) hc45 1 rfl trivial ?_
          refine R_ic (t := 47) hc45 rfl rfl (fun (c5 : ¬ nx (A 18) (F 5) (a2) = 101) => ?_) (fun (c5 : ¬ (¬ nx (A 18) (F 5) (a2) = 101)) => ?_)
          · refine R_s (P := True) (f' := (55, [some (vR 17), some (vR 20), some (vI x), some (vI 0)], [vI 0, vI x, vR 26], LAY (u (u (u A 26 (A 26)) 27 (A 27)) 28 (A 28)) (u (u F 7 (F 7)) 6 a2), 0, 0)) hc45 6 rfl trivial ?_
            refine R_if (t := 62) hc45 rfl rfl (fun (_ : 0 = 0) => ?_) (fun (z : ¬ (0 = 0)) => absurd (by decide) z)
            refine R_s (P := (0 ≤ x ∧ x < ((A 26).length : Int)) ∧ True) (f' := (66, [some (vR 17), some (vR 20), some (vI x), some (vI 0)], [vI 0, vR 17], LAY (u (u (u A 27 (A 27)) 28 (A 28)) 26 (wr (A 26) x 2)) (u (u F 7 (F 7)) 6 a2), 0, 0)) hc45 4 rfl ⟨⟨by omega, by omega⟩, trivial⟩ ?_
            refine R_if (t := 74) hc45 rfl rfl (fun (_ : 0 = 0) => ?_) (fun (z : ¬ (0 = 0)) => absurd (by decide) z)
            refine R_s (P := True) (f' := (76, [some (vR 17), some (vR 20), some (vI x), some (vI 0)], [vS 6, vR 17], LAY (u (u (u A 27 (A 27)) 28 (A 28)) 26 (wr (A 26) x 2)) (u (u F 7 (F 7)) 6 a2), 0, 0)) hc45 1 rfl trivial ?_
            refine R_cv hc45 rfl rfl (l_word6 (A := (u (u (u A 27 (A 27)) 28 (A 28)) 26 (wr (A 26) x 2))) (F := (u (u F 7 (F 7)) 6 a2)) (LENS_u (LENS_u (LENS_u hL (by show (A 27).length = (A 27).length; omega)) (by show (A 28).length = (A 28).length; omega)) (by show (wr (A 26) x 2).length = (A 26).length; simp only [wr_len])) h5 ⟨by (show 0 ≤ a2); omega, by (show a2 ≤ F 5); omega⟩) (fun r G9 hp9 => ?_)
            obtain ⟨b3, a3, rfl, rfl, hb3, hw3, p3, q3⟩ := hp9
            have p3 : 0 ≤ a3 := p3
            have q3 : a3 ≤ F 5 := q3
            refine R_s (f' := (79, [some (vR 17), some (vR 20), some (vI x), some (vI 0)], [vI b3], LAY (u (u (u A 27 (A 27)) 28 (A 28)) 26 (wr (A 26) x 2)) (u (u F 7 (F 7)) 6 a3), 0, 0)) hc45 0 rfl trivial ?_
            refine R_retz hc45 rfl rfl (by omega) ?_
            refine R_s (f' := (26, [some (vR 17), some (vR 20), some (vI x), none], [vI b3], LAY (u (u (u A 27 (A 27)) 28 (A 28)) 26 (wr (A 26) x 2)) (u (u F 7 (F 7)) 6 a3), 0, 0)) hc44 0 rfl trivial ?_
            refine R_if (t := 31) hc44 rfl rfl (fun (c8 : ¬ b3 = 0) => ?_) (fun (c8 : ¬ (¬ b3 = 0)) => ?_)
            · refine R_s (P := True) (f' := (32, [some (vR 17), some (vR 20), some (vI x), none], [vR 17], LAY (u (u (u A 27 (A 27)) 28 (A 28)) 26 (wr (A 26) x 2)) (u (u F 7 (F 7)) 6 a3), 0, 0)) hc44 1 rfl trivial ?_
              refine R_cv hc44 rfl rfl (l_next (A := (u (u (u A 27 (A 27)) 28 (A 28)) 26 (wr (A 26) x 2))) (F := (u (u F 7 (F 7)) 6 a3)) (LENS_u (LENS_u (LENS_u hL (by show (A 27).length = (A 27).length; omega)) (by show (A 28).length = (A 28).length; omega)) (by show (wr (A 26) x 2).length = (A 26).length; simp only [wr_len])) h5 ⟨by (show 0 ≤ a3); omega, by (show a3 ≤ F 5); omega⟩) (fun r G9 hp9 => ?_)
              obtain ⟨e1, rfl⟩ := hp9
              have e2 : r = some (vI (nx (A 18) (F 5) (a3))) := e1
              clear e1
              subst e2
              refine R_s (f' := (35, [some (vR 17), some (vR 20), some (vI x), none], [vI (nx (A 18) (F 5) (a3))], LAY (u (u (u A 27 (A 27)) 28 (A 28)) 26 (wr (A 26) x 2)) (u (u F 7 (F 7)) 6 a3), 0, 0)) hc44 0 rfl trivial ?_
              refine R_s (P := True) (f' := (39, [some (vR 17), some (vR 20), some (vI x), some (vI (nx (A 18) (F 5) (a3)))], [vI 61, vI (nx (A 18) (F 5) (a3))], LAY (u (u (u A 27 (A 27)) 28 (A 28)) 26 (wr (A 26) x 2)) (u (u F 7 (F 7)) 6 a3), 0, 0)) hc44 3 rfl trivial ?_
              refine R_ic (t := 56) hc44 rfl rfl (fun (c9 : nx (A 18) (F 5) (a3) = 61) => ?_) (fun (c9 : ¬ (nx (A 18) (F 5) (a3) = 61)) => ?_)
              · refine R_s (P := (0 ≤ x ∧ x < ((A 27).length : Int)) ∧ inI (a3 + 1) ∧ True) (f' := (75, [some (vR 17), some (vR 20), some (vI x), some (vI (nx (A 18) (F 5) (a3)))], [vI 4, vR 17], LAY (u (u (u A 28 (A 28)) 26 (wr (A 26) x 2)) 27 (wr (A 27) x (nx (A 18) (F 5) (a3)))) (u (u F 7 (F 7)) 6 (a3 + 1)), 0, 0)) hc44 13 rfl ⟨⟨by omega, by omega⟩, ⟨by omega, by omega⟩, trivial⟩ ?_
                refine R_cv hc44 rfl rfl (l_numb (A := (u (u (u A 28 (A 28)) 26 (wr (A 26) x 2)) 27 (wr (A 27) x (nx (A 18) (F 5) (a3))))) (F := (u (u F 7 (F 7)) 6 (a3 + 1))) (LENS_u (LENS_u (LENS_u hL (by show (A 28).length = (A 28).length; omega)) (by show (wr (A 26) x 2).length = (A 26).length; simp only [wr_len])) (by show (wr (A 27) x (nx (A 18) (F 5) (a3))).length = (A 27).length; simp only [wr_len])) h5 ⟨by (show 0 ≤ a3 + 1); omega, by (have := nx_in (l := A 18) (n := F 5) (a := a3) (by omega)); (show a3 + 1 ≤ F 5); omega⟩ (kk := 4) (by decide) rfl) (fun r G9 hp9 => ?_)
                obtain ⟨b4, a4, v4, rfl, rfl, hb4, hw4, p4, q4, w4⟩ := hp9
                have p4 : 0 ≤ a4 := p4
                have q4 : a4 ≤ F 5 := q4
                refine R_s (f' := (78, [some (vR 17), some (vR 20), some (vI x), some (vI (nx (A 18) (F 5) (a3)))], [vI b4], LAY (u (u (u A 28 (A 28)) 26 (wr (A 26) x 2)) 27 (wr (A 27) x (nx (A 18) (F 5) (a3)))) (u (u F 6 a4) 7 v4), 0, 0)) hc44 0 rfl trivial ?_
                refine R_if (t := 83) hc44 rfl rfl (fun (c10 : ¬ b4 = 0) => ?_) (fun (c10 : ¬ (¬ b4 = 0)) => ?_)
                · refine R_s (P := (0 ≤ x ∧ x < ((A 28).length : Int)) ∧ True) (f' := (94, [some (vR 17), some (vR 20), some (vI x), some (vI (nx (A 18) (F 5) (a3)))], [vI 1], LAY (u (u (u A 26 (wr (A 26) x 2)) 27 (wr (A 27) x (nx (A 18) (F 5) (a3)))) 28 (wr (A 28) x v4)) (u (u F 6 a4) 7 v4), 0, 0)) hc44 7 rfl ⟨⟨by omega, by omega⟩, trivial⟩ ?_
                  refine R_retz hc44 rfl rfl (Or.inr rfl) ⟨1, wr (A 26) x 2, wr (A 27) x (nx (A 18) (F 5) (a3)), wr (A 28) x v4, a4, v4, rfl, rfl, (by (try simp only [wr_len]); omega), (by (try simp only [wr_len]); omega), (by (try simp only [wr_len]); omega), by decide, by omega, by first | omega | (have := nx_in (l := A 18) (n := F 5) (a := F 6) (by omega); omega), fun q hq => by rw [rd_wr_n (by omega) (by omega) (by omega)], fun q hq => by rw [rd_wr_n (by omega) (by omega) (by omega)], fun q hq => by rw [rd_wr_n (by omega) (by omega) (by omega)], ?_⟩
                  have ehw1 : b1 = 1 := by omega
                  rw [ehw1] at hw1
                  have hw1n : wD (A 18) (F 5) IFF (0, F 6) = (0, a1) := hw1
                  have ehw2 : b2 = 1 := by omega
                  rw [ehw2] at hw2
                  have hw2n : wD (A 18) (F 5) YY (0, a1) = (0, a2) := hw2
                  have ehw3 : b3 = 1 := by omega
                  rw [ehw3] at hw3
                  have hw3n : wD (A 18) (F 5) IELD (0, a2) = (0, a3) := hw3
                  have ehw4 : b4 = 1 := by omega
                  rw [ehw4] at hw4
                  have hw4n : dG (A 18) (F 5) 4 (0, a3 + 1) = ((0, a4), v4) := hw4
                  have hYe : eE (A 18) (F 5) 121 (0, a1) = (0, a2) := hw2n
                  have e2 : t2 (A 18) (F 5) (0, F 6) = ((0, a3), 1) := by
                    unfold t2
                    rw [hw1n]
                    rw [if_pos rfl]
                    unfold fD
                    (try dsimp only)
                    rw [if_neg (by omega), hYe]
                    rw [if_neg (fun z => by have := z.2; (try dsimp only at this); omega), hw3n]
                  have e3 : t3 (A 18) (F 5) (0, F 6) = (0, a3 + 1) := by
                    unfold t3
                    rw [e2]
                    rw [if_pos ⟨rfl, by (try dsimp only); omega⟩]
                  have e4 : dG (A 18) (F 5) 4 (t3 (A 18) (F 5) (0, F 6)) = ((0, a4), v4) := by
                    rw [e3]
                    exact hw4n
                  have eS : tS (A 18) (F 5) (0, F 6) = (0, a4) := by
                    unfold tS
                    rw [if_pos ⟨rfl, by (try dsimp only); omega⟩, e4]
                  have eF : tF (A 18) (F 5) (0, F 6) = 1 := by
                    unfold tF
                    rw [if_pos ⟨rfl, by (try dsimp only); omega⟩, e2]
                  have eG : tG (A 18) (F 5) (0, F 6) = nx (A 18) (F 5) (a3) := by
                    unfold tG
                    rw [e2]
                  have eH : tH (A 18) (F 5) (0, F 6) = v4 := by
                    unfold tH
                    rw [e4]
                  refine ⟨eS, fun _ => ⟨?_, .inr ⟨?_, ?_⟩⟩⟩
                  · rw [eF, ← ex, rd_wr_s (by omega) (by (try simp only [wr_len]); omega)]
                    decide
                  · rw [eG, ← ex, rd_wr_s (by omega) (by (try simp only [wr_len]); omega)]
                  · rw [eH, ← ex, rd_wr_s (by omega) (by (try simp only [wr_len]); omega)]
                · refine R_s (P := True) (f' := (82, [some (vR 17), some (vR 20), some (vI x), some (vI (nx (A 18) (F 5) (a3)))], [vI 0], LAY (u (u (u A 28 (A 28)) 26 (wr (A 26) x 2)) 27 (wr (A 27) x (nx (A 18) (F 5) (a3)))) (u (u F 6 a4) 7 v4), 0, 0)) hc44 1 rfl trivial ?_
                  refine R_retz hc44 rfl rfl (Or.inl rfl) ⟨0, wr (A 26) x 2, wr (A 27) x (nx (A 18) (F 5) (a3)), A 28, a4, v4, rfl, rfl, (by (try simp only [wr_len]); omega), (by (try simp only [wr_len]); omega), (by (try simp only [wr_len]); omega), by decide, by omega, by first | omega | (have := nx_in (l := A 18) (n := F 5) (a := F 6) (by omega); omega), fun q hq => by rw [rd_wr_n (by omega) (by omega) (by omega)], fun q hq => by rw [rd_wr_n (by omega) (by omega) (by omega)], fun _ _ => rfl, ?_, fun z => absurd z (by decide)⟩
                  have ehw1 : b1 = 1 := by omega
                  rw [ehw1] at hw1
                  have hw1n : wD (A 18) (F 5) IFF (0, F 6) = (0, a1) := hw1
                  have ehw2 : b2 = 1 := by omega
                  rw [ehw2] at hw2
                  have hw2n : wD (A 18) (F 5) YY (0, a1) = (0, a2) := hw2
                  have ehw3 : b3 = 1 := by omega
                  rw [ehw3] at hw3
                  have hw3n : wD (A 18) (F 5) IELD (0, a2) = (0, a3) := hw3
                  have ehw4 : b4 = 0 := by omega
                  rw [ehw4] at hw4
                  have hw4n : dG (A 18) (F 5) 4 (0, a3 + 1) = ((1, a4), v4) := hw4
                  have hYe : eE (A 18) (F 5) 121 (0, a1) = (0, a2) := hw2n
                  have e2 : t2 (A 18) (F 5) (0, F 6) = ((0, a3), 1) := by
                    unfold t2
                    rw [hw1n]
                    rw [if_pos rfl]
                    unfold fD
                    (try dsimp only)
                    rw [if_neg (by omega), hYe]
                    rw [if_neg (fun z => by have := z.2; (try dsimp only at this); omega), hw3n]
                  have e3 : t3 (A 18) (F 5) (0, F 6) = (0, a3 + 1) := by
                    unfold t3
                    rw [e2]
                    rw [if_pos ⟨rfl, by (try dsimp only); omega⟩]
                  have e4 : dG (A 18) (F 5) 4 (t3 (A 18) (F 5) (0, F 6)) = ((1, a4), v4) := by
                    rw [e3]
                    exact hw4n
                  have eS : tS (A 18) (F 5) (0, F 6) = (1, a4) := by
                    unfold tS
                    rw [if_pos ⟨rfl, by (try dsimp only); omega⟩, e4]
                  exact eS
              · refine R_s (P := True) (f' := (45, [some (vR 17), some (vR 20), some (vI x), some (vI (nx (A 18) (F 5) (a3)))], [vI 60, vI (nx (A 18) (F 5) (a3))], LAY (u (u (u A 27 (A 27)) 28 (A 28)) 26 (wr (A 26) x 2)) (u (u F 7 (F 7)) 6 a3), 0, 0)) hc44 2 rfl trivial ?_
                refine R_ic (t := 56) hc44 rfl rfl (fun (c11 : nx (A 18) (F 5) (a3) = 60) => ?_) (fun (c11 : ¬ (nx (A 18) (F 5) (a3) = 60)) => ?_)
                · refine R_s (P := (0 ≤ x ∧ x < ((A 27).length : Int)) ∧ inI (a3 + 1) ∧ True) (f' := (75, [some (vR 17), some (vR 20), some (vI x), some (vI (nx (A 18) (F 5) (a3)))], [vI 4, vR 17], LAY (u (u (u A 28 (A 28)) 26 (wr (A 26) x 2)) 27 (wr (A 27) x (nx (A 18) (F 5) (a3)))) (u (u F 7 (F 7)) 6 (a3 + 1)), 0, 0)) hc44 13 rfl ⟨⟨by omega, by omega⟩, ⟨by omega, by omega⟩, trivial⟩ ?_
                  refine R_cv hc44 rfl rfl (l_numb (A := (u (u (u A 28 (A 28)) 26 (wr (A 26) x 2)) 27 (wr (A 27) x (nx (A 18) (F 5) (a3))))) (F := (u (u F 7 (F 7)) 6 (a3 + 1))) (LENS_u (LENS_u (LENS_u hL (by show (A 28).length = (A 28).length; omega)) (by show (wr (A 26) x 2).length = (A 26).length; simp only [wr_len])) (by show (wr (A 27) x (nx (A 18) (F 5) (a3))).length = (A 27).length; simp only [wr_len])) h5 ⟨by (show 0 ≤ a3 + 1); omega, by (have := nx_in (l := A 18) (n := F 5) (a := a3) (by omega)); (show a3 + 1 ≤ F 5); omega⟩ (kk := 4) (by decide) rfl) (fun r G9 hp9 => ?_)
                  obtain ⟨b5, a5, v5, rfl, rfl, hb5, hw5, p5, q5, w5⟩ := hp9
                  have p5 : 0 ≤ a5 := p5
                  have q5 : a5 ≤ F 5 := q5
                  refine R_s (f' := (78, [some (vR 17), some (vR 20), some (vI x), some (vI (nx (A 18) (F 5) (a3)))], [vI b5], LAY (u (u (u A 28 (A 28)) 26 (wr (A 26) x 2)) 27 (wr (A 27) x (nx (A 18) (F 5) (a3)))) (u (u F 6 a5) 7 v5), 0, 0)) hc44 0 rfl trivial ?_
                  refine R_if (t := 83) hc44 rfl rfl (fun (c12 : ¬ b5 = 0) => ?_) (fun (c12 : ¬ (¬ b5 = 0)) => ?_)
                  · refine R_s (P := (0 ≤ x ∧ x < ((A 28).length : Int)) ∧ True) (f' := (94, [some (vR 17), some (vR 20), some (vI x), some (vI (nx (A 18) (F 5) (a3)))], [vI 1], LAY (u (u (u A 26 (wr (A 26) x 2)) 27 (wr (A 27) x (nx (A 18) (F 5) (a3)))) 28 (wr (A 28) x v5)) (u (u F 6 a5) 7 v5), 0, 0)) hc44 7 rfl ⟨⟨by omega, by omega⟩, trivial⟩ ?_
                    refine R_retz hc44 rfl rfl (Or.inr rfl) ⟨1, wr (A 26) x 2, wr (A 27) x (nx (A 18) (F 5) (a3)), wr (A 28) x v5, a5, v5, rfl, rfl, (by (try simp only [wr_len]); omega), (by (try simp only [wr_len]); omega), (by (try simp only [wr_len]); omega), by decide, by omega, by first | omega | (have := nx_in (l := A 18) (n := F 5) (a := F 6) (by omega); omega), fun q hq => by rw [rd_wr_n (by omega) (by omega) (by omega)], fun q hq => by rw [rd_wr_n (by omega) (by omega) (by omega)], fun q hq => by rw [rd_wr_n (by omega) (by omega) (by omega)], ?_⟩
                    have ehw1 : b1 = 1 := by omega
                    rw [ehw1] at hw1
                    have hw1n : wD (A 18) (F 5) IFF (0, F 6) = (0, a1) := hw1
                    have ehw2 : b2 = 1 := by omega
                    rw [ehw2] at hw2
                    have hw2n : wD (A 18) (F 5) YY (0, a1) = (0, a2) := hw2
                    have ehw3 : b3 = 1 := by omega
                    rw [ehw3] at hw3
                    have hw3n : wD (A 18) (F 5) IELD (0, a2) = (0, a3) := hw3
                    have ehw5 : b5 = 1 := by omega
                    rw [ehw5] at hw5
                    have hw5n : dG (A 18) (F 5) 4 (0, a3 + 1) = ((0, a5), v5) := hw5
                    have hYe : eE (A 18) (F 5) 121 (0, a1) = (0, a2) := hw2n
                    have e2 : t2 (A 18) (F 5) (0, F 6) = ((0, a3), 1) := by
                      unfold t2
                      rw [hw1n]
                      rw [if_pos rfl]
                      unfold fD
                      (try dsimp only)
                      rw [if_neg (by omega), hYe]
                      rw [if_neg (fun z => by have := z.2; (try dsimp only at this); omega), hw3n]
                    have e3 : t3 (A 18) (F 5) (0, F 6) = (0, a3 + 1) := by
                      unfold t3
                      rw [e2]
                      rw [if_pos ⟨rfl, by (try dsimp only); omega⟩]
                    have e4 : dG (A 18) (F 5) 4 (t3 (A 18) (F 5) (0, F 6)) = ((0, a5), v5) := by
                      rw [e3]
                      exact hw5n
                    have eS : tS (A 18) (F 5) (0, F 6) = (0, a5) := by
                      unfold tS
                      rw [if_pos ⟨rfl, by (try dsimp only); omega⟩, e4]
                    have eF : tF (A 18) (F 5) (0, F 6) = 1 := by
                      unfold tF
                      rw [if_pos ⟨rfl, by (try dsimp only); omega⟩, e2]
                    have eG : tG (A 18) (F 5) (0, F 6) = nx (A 18) (F 5) (a3) := by
                      unfold tG
                      rw [e2]
                    have eH : tH (A 18) (F 5) (0, F 6) = v5 := by
                      unfold tH
                      rw [e4]
                    refine ⟨eS, fun _ => ⟨?_, .inr ⟨?_, ?_⟩⟩⟩
                    · rw [eF, ← ex, rd_wr_s (by omega) (by (try simp only [wr_len]); omega)]
                      decide
                    · rw [eG, ← ex, rd_wr_s (by omega) (by (try simp only [wr_len]); omega)]
                    · rw [eH, ← ex, rd_wr_s (by omega) (by (try simp only [wr_len]); omega)]
                  · refine R_s (P := True) (f' := (82, [some (vR 17), some (vR 20), some (vI x), some (vI (nx (A 18) (F 5) (a3)))], [vI 0], LAY (u (u (u A 28 (A 28)) 26 (wr (A 26) x 2)) 27 (wr (A 27) x (nx (A 18) (F 5) (a3)))) (u (u F 6 a5) 7 v5), 0, 0)) hc44 1 rfl trivial ?_
                    refine R_retz hc44 rfl rfl (Or.inl rfl) ⟨0, wr (A 26) x 2, wr (A 27) x (nx (A 18) (F 5) (a3)), A 28, a5, v5, rfl, rfl, (by (try simp only [wr_len]); omega), (by (try simp only [wr_len]); omega), (by (try simp only [wr_len]); omega), by decide, by omega, by first | omega | (have := nx_in (l := A 18) (n := F 5) (a := F 6) (by omega); omega), fun q hq => by rw [rd_wr_n (by omega) (by omega) (by omega)], fun q hq => by rw [rd_wr_n (by omega) (by omega) (by omega)], fun _ _ => rfl, ?_, fun z => absurd z (by decide)⟩
                    have ehw1 : b1 = 1 := by omega
                    rw [ehw1] at hw1
                    have hw1n : wD (A 18) (F 5) IFF (0, F 6) = (0, a1) := hw1
                    have ehw2 : b2 = 1 := by omega
                    rw [ehw2] at hw2
                    have hw2n : wD (A 18) (F 5) YY (0, a1) = (0, a2) := hw2
                    have ehw3 : b3 = 1 := by omega
                    rw [ehw3] at hw3
                    have hw3n : wD (A 18) (F 5) IELD (0, a2) = (0, a3) := hw3
                    have ehw5 : b5 = 0 := by omega
                    rw [ehw5] at hw5
                    have hw5n : dG (A 18) (F 5) 4 (0, a3 + 1) = ((1, a5), v5) := hw5
                    have hYe : eE (A 18) (F 5) 121 (0, a1) = (0, a2) := hw2n
                    have e2 : t2 (A 18) (F 5) (0, F 6) = ((0, a3), 1) := by
                      unfold t2
                      rw [hw1n]
                      rw [if_pos rfl]
                      unfold fD
                      (try dsimp only)
                      rw [if_neg (by omega), hYe]
                      rw [if_neg (fun z => by have := z.2; (try dsimp only at this); omega), hw3n]
                    have e3 : t3 (A 18) (F 5) (0, F 6) = (0, a3 + 1) := by
                      unfold t3
                      rw [e2]
                      rw [if_pos ⟨rfl, by (try dsimp only); omega⟩]
                    have e4 : dG (A 18) (F 5) 4 (t3 (A 18) (F 5) (0, F 6)) = ((1, a5), v5) := by
                      rw [e3]
                      exact hw5n
                    have eS : tS (A 18) (F 5) (0, F 6) = (1, a5) := by
                      unfold tS
                      rw [if_pos ⟨rfl, by (try dsimp only); omega⟩, e4]
                    exact eS
                · refine R_s (P := True) (f' := (51, [some (vR 17), some (vR 20), some (vI x), some (vI (nx (A 18) (F 5) (a3)))], [vI 62, vI (nx (A 18) (F 5) (a3))], LAY (u (u (u A 27 (A 27)) 28 (A 28)) 26 (wr (A 26) x 2)) (u (u F 7 (F 7)) 6 a3), 0, 0)) hc44 2 rfl trivial ?_
                  refine R_ic (t := 56) hc44 rfl rfl (fun (c13 : nx (A 18) (F 5) (a3) = 62) => ?_) (fun (c13 : ¬ (nx (A 18) (F 5) (a3) = 62)) => ?_)
                  · refine R_s (P := (0 ≤ x ∧ x < ((A 27).length : Int)) ∧ inI (a3 + 1) ∧ True) (f' := (75, [some (vR 17), some (vR 20), some (vI x), some (vI (nx (A 18) (F 5) (a3)))], [vI 4, vR 17], LAY (u (u (u A 28 (A 28)) 26 (wr (A 26) x 2)) 27 (wr (A 27) x (nx (A 18) (F 5) (a3)))) (u (u F 7 (F 7)) 6 (a3 + 1)), 0, 0)) hc44 13 rfl ⟨⟨by omega, by omega⟩, ⟨by omega, by omega⟩, trivial⟩ ?_
                    refine R_cv hc44 rfl rfl (l_numb (A := (u (u (u A 28 (A 28)) 26 (wr (A 26) x 2)) 27 (wr (A 27) x (nx (A 18) (F 5) (a3))))) (F := (u (u F 7 (F 7)) 6 (a3 + 1))) (LENS_u (LENS_u (LENS_u hL (by show (A 28).length = (A 28).length; omega)) (by show (wr (A 26) x 2).length = (A 26).length; simp only [wr_len])) (by show (wr (A 27) x (nx (A 18) (F 5) (a3))).length = (A 27).length; simp only [wr_len])) h5 ⟨by (show 0 ≤ a3 + 1); omega, by (have := nx_in (l := A 18) (n := F 5) (a := a3) (by omega)); (show a3 + 1 ≤ F 5); omega⟩ (kk := 4) (by decide) rfl) (fun r G9 hp9 => ?_)
                    obtain ⟨b6, a6, v6, rfl, rfl, hb6, hw6, p6, q6, w6⟩ := hp9
                    have p6 : 0 ≤ a6 := p6
                    have q6 : a6 ≤ F 5 := q6
                    refine R_s (f' := (78, [some (vR 17), some (vR 20), some (vI x), some (vI (nx (A 18) (F 5) (a3)))], [vI b6], LAY (u (u (u A 28 (A 28)) 26 (wr (A 26) x 2)) 27 (wr (A 27) x (nx (A 18) (F 5) (a3)))) (u (u F 6 a6) 7 v6), 0, 0)) hc44 0 rfl trivial ?_
                    refine R_if (t := 83) hc44 rfl rfl (fun (c14 : ¬ b6 = 0) => ?_) (fun (c14 : ¬ (¬ b6 = 0)) => ?_)
                    · refine R_s (P := (0 ≤ x ∧ x < ((A 28).length : Int)) ∧ True) (f' := (94, [some (vR 17), some (vR 20), some (vI x), some (vI (nx (A 18) (F 5) (a3)))], [vI 1], LAY (u (u (u A 26 (wr (A 26) x 2)) 27 (wr (A 27) x (nx (A 18) (F 5) (a3)))) 28 (wr (A 28) x v6)) (u (u F 6 a6) 7 v6), 0, 0)) hc44 7 rfl ⟨⟨by omega, by omega⟩, trivial⟩ ?_
                      refine R_retz hc44 rfl rfl (Or.inr rfl) ⟨1, wr (A 26) x 2, wr (A 27) x (nx (A 18) (F 5) (a3)), wr (A 28) x v6, a6, v6, rfl, rfl, (by (try simp only [wr_len]); omega), (by (try simp only [wr_len]); omega), (by (try simp only [wr_len]); omega), by decide, by omega, by first | omega | (have := nx_in (l := A 18) (n := F 5) (a := F 6) (by omega); omega), fun q hq => by rw [rd_wr_n (by omega) (by omega) (by omega)], fun q hq => by rw [rd_wr_n (by omega) (by omega) (by omega)], fun q hq => by rw [rd_wr_n (by omega) (by omega) (by omega)], ?_⟩
                      have ehw1 : b1 = 1 := by omega
                      rw [ehw1] at hw1
                      have hw1n : wD (A 18) (F 5) IFF (0, F 6) = (0, a1) := hw1
                      have ehw2 : b2 = 1 := by omega
                      rw [ehw2] at hw2
                      have hw2n : wD (A 18) (F 5) YY (0, a1) = (0, a2) := hw2
                      have ehw3 : b3 = 1 := by omega
                      rw [ehw3] at hw3
                      have hw3n : wD (A 18) (F 5) IELD (0, a2) = (0, a3) := hw3
                      have ehw6 : b6 = 1 := by omega
                      rw [ehw6] at hw6
                      have hw6n : dG (A 18) (F 5) 4 (0, a3 + 1) = ((0, a6), v6) := hw6
                      have hYe : eE (A 18) (F 5) 121 (0, a1) = (0, a2) := hw2n
                      have e2 : t2 (A 18) (F 5) (0, F 6) = ((0, a3), 1) := by
                        unfold t2
                        rw [hw1n]
                        rw [if_pos rfl]
                        unfold fD
                        (try dsimp only)
                        rw [if_neg (by omega), hYe]
                        rw [if_neg (fun z => by have := z.2; (try dsimp only at this); omega), hw3n]
                      have e3 : t3 (A 18) (F 5) (0, F 6) = (0, a3 + 1) := by
                        unfold t3
                        rw [e2]
                        rw [if_pos ⟨rfl, by (try dsimp only); omega⟩]
                      have e4 : dG (A 18) (F 5) 4 (t3 (A 18) (F 5) (0, F 6)) = ((0, a6), v6) := by
                        rw [e3]
                        exact hw6n
                      have eS : tS (A 18) (F 5) (0, F 6) = (0, a6) := by
                        unfold tS
                        rw [if_pos ⟨rfl, by (try dsimp only); omega⟩, e4]
                      have eF : tF (A 18) (F 5) (0, F 6) = 1 := by
                        unfold tF
                        rw [if_pos ⟨rfl, by (try dsimp only); omega⟩, e2]
                      have eG : tG (A 18) (F 5) (0, F 6) = nx (A 18) (F 5) (a3) := by
                        unfold tG
                        rw [e2]
                      have eH : tH (A 18) (F 5) (0, F 6) = v6 := by
                        unfold tH
                        rw [e4]
                      refine ⟨eS, fun _ => ⟨?_, .inr ⟨?_, ?_⟩⟩⟩
                      · rw [eF, ← ex, rd_wr_s (by omega) (by (try simp only [wr_len]); omega)]
                        decide
                      · rw [eG, ← ex, rd_wr_s (by omega) (by (try simp only [wr_len]); omega)]
                      · rw [eH, ← ex, rd_wr_s (by omega) (by (try simp only [wr_len]); omega)]
                    · refine R_s (P := True) (f' := (82, [some (vR 17), some (vR 20), some (vI x), some (vI (nx (A 18) (F 5) (a3)))], [vI 0], LAY (u (u (u A 28 (A 28)) 26 (wr (A 26) x 2)) 27 (wr (A 27) x (nx (A 18) (F 5) (a3)))) (u (u F 6 a6) 7 v6), 0, 0)) hc44 1 rfl trivial ?_
                      refine R_retz hc44 rfl rfl (Or.inl rfl) ⟨0, wr (A 26) x 2, wr (A 27) x (nx (A 18) (F 5) (a3)), A 28, a6, v6, rfl, rfl, (by (try simp only [wr_len]); omega), (by (try simp only [wr_len]); omega), (by (try simp only [wr_len]); omega), by decide, by omega, by first | omega | (have := nx_in (l := A 18) (n := F 5) (a := F 6) (by omega); omega), fun q hq => by rw [rd_wr_n (by omega) (by omega) (by omega)], fun q hq => by rw [rd_wr_n (by omega) (by omega) (by omega)], fun _ _ => rfl, ?_, fun z => absurd z (by decide)⟩
                      have ehw1 : b1 = 1 := by omega
                      rw [ehw1] at hw1
                      have hw1n : wD (A 18) (F 5) IFF (0, F 6) = (0, a1) := hw1
                      have ehw2 : b2 = 1 := by omega
                      rw [ehw2] at hw2
                      have hw2n : wD (A 18) (F 5) YY (0, a1) = (0, a2) := hw2
                      have ehw3 : b3 = 1 := by omega
                      rw [ehw3] at hw3
                      have hw3n : wD (A 18) (F 5) IELD (0, a2) = (0, a3) := hw3
                      have ehw6 : b6 = 0 := by omega
                      rw [ehw6] at hw6
                      have hw6n : dG (A 18) (F 5) 4 (0, a3 + 1) = ((1, a6), v6) := hw6
                      have hYe : eE (A 18) (F 5) 121 (0, a1) = (0, a2) := hw2n
                      have e2 : t2 (A 18) (F 5) (0, F 6) = ((0, a3), 1) := by
                        unfold t2
                        rw [hw1n]
                        rw [if_pos rfl]
                        unfold fD
                        (try dsimp only)
                        rw [if_neg (by omega), hYe]
                        rw [if_neg (fun z => by have := z.2; (try dsimp only at this); omega), hw3n]
                      have e3 : t3 (A 18) (F 5) (0, F 6) = (0, a3 + 1) := by
                        unfold t3
                        rw [e2]
                        rw [if_pos ⟨rfl, by (try dsimp only); omega⟩]
                      have e4 : dG (A 18) (F 5) 4 (t3 (A 18) (F 5) (0, F 6)) = ((1, a6), v6) := by
                        rw [e3]
                        exact hw6n
                      have eS : tS (A 18) (F 5) (0, F 6) = (1, a6) := by
                        unfold tS
                        rw [if_pos ⟨rfl, by (try dsimp only); omega⟩, e4]
                      exact eS
                  · refine R_s (P := True) (f' := (55, [some (vR 17), some (vR 20), some (vI x), some (vI (nx (A 18) (F 5) (a3)))], [vI 0], LAY (u (u (u A 27 (A 27)) 28 (A 28)) 26 (wr (A 26) x 2)) (u (u F 7 (F 7)) 6 a3), 0, 0)) hc44 1 rfl trivial ?_
                    refine R_retz hc44 rfl rfl (Or.inl rfl) ⟨0, wr (A 26) x 2, A 27, A 28, a3, F 7, rfl, rfl, (by (try simp only [wr_len]); omega), (by (try simp only [wr_len]); omega), (by (try simp only [wr_len]); omega), by decide, by omega, by first | omega | (have := nx_in (l := A 18) (n := F 5) (a := F 6) (by omega); omega), fun q hq => by rw [rd_wr_n (by omega) (by omega) (by omega)], fun _ _ => rfl, fun _ _ => rfl, ?_, fun z => absurd z (by decide)⟩
                    have ehw1 : b1 = 1 := by omega
                    rw [ehw1] at hw1
                    have hw1n : wD (A 18) (F 5) IFF (0, F 6) = (0, a1) := hw1
                    have ehw2 : b2 = 1 := by omega
                    rw [ehw2] at hw2
                    have hw2n : wD (A 18) (F 5) YY (0, a1) = (0, a2) := hw2
                    have ehw3 : b3 = 1 := by omega
                    rw [ehw3] at hw3
                    have hw3n : wD (A 18) (F 5) IELD (0, a2) = (0, a3) := hw3
                    have hYe : eE (A 18) (F 5) 121 (0, a1) = (0, a2) := hw2n
                    have e2 : t2 (A 18) (F 5) (0, F 6) = ((0, a3), 1) := by
                      unfold t2
                      rw [hw1n]
                      rw [if_pos rfl]
                      unfold fD
                      (try dsimp only)
                      rw [if_neg (by omega), hYe]
                      rw [if_neg (fun z => by have := z.2; (try dsimp only at this); omega), hw3n]
                    have e3 : t3 (A 18) (F 5) (0, F 6) = (1, a3) := by
                      unfold t3
                      rw [e2]
                      rw [if_neg (fun z => by have := z.2; (try dsimp only at this); omega)]
                    have e4 : dG (A 18) (F 5) 4 (t3 (A 18) (F 5) (0, F 6)) = ((1, a3), 0) := by rw [e3, dG_f]
                    have eS : tS (A 18) (F 5) (0, F 6) = (1, a3) := by
                      unfold tS
                      rw [if_pos ⟨rfl, by (try dsimp only); omega⟩, e4]
                    exact eS
            · refine R_s (P := True) (f' := (30, [some (vR 17), some (vR 20), some (vI x), none], [vI 0], LAY (u (u (u A 27 (A 27)) 28 (A 28)) 26 (wr (A 26) x 2)) (u (u F 7 (F 7)) 6 a3), 0, 0)) hc44 1 rfl trivial ?_
              refine R_retz hc44 rfl rfl (Or.inl rfl) ⟨0, wr (A 26) x 2, A 27, A 28, a3, F 7, rfl, rfl, (by (try simp only [wr_len]); omega), (by (try simp only [wr_len]); omega), (by (try simp only [wr_len]); omega), by decide, by omega, by first | omega | (have := nx_in (l := A 18) (n := F 5) (a := F 6) (by omega); omega), fun q hq => by rw [rd_wr_n (by omega) (by omega) (by omega)], fun _ _ => rfl, fun _ _ => rfl, ?_, fun z => absurd z (by decide)⟩
              have ehw1 : b1 = 1 := by omega
              rw [ehw1] at hw1
              have hw1n : wD (A 18) (F 5) IFF (0, F 6) = (0, a1) := hw1
              have ehw2 : b2 = 1 := by omega
              rw [ehw2] at hw2
              have hw2n : wD (A 18) (F 5) YY (0, a1) = (0, a2) := hw2
              have ehw3 : b3 = 0 := by omega
              rw [ehw3] at hw3
              have hw3n : wD (A 18) (F 5) IELD (0, a2) = (1, a3) := hw3
              have hYe : eE (A 18) (F 5) 121 (0, a1) = (0, a2) := hw2n
              have e2 : t2 (A 18) (F 5) (0, F 6) = ((1, a3), 1) := by
                unfold t2
                rw [hw1n]
                rw [if_pos rfl]
                unfold fD
                (try dsimp only)
                rw [if_neg (by omega), hYe]
                rw [if_neg (fun z => by have := z.2; (try dsimp only at this); omega), hw3n]
              have e3 : t3 (A 18) (F 5) (0, F 6) = (1, a3) := by
                unfold t3
                rw [e2]
                rw [if_neg (fun z => absurd (show (1 : Int) = 0 from z.1) (by decide))]
              have e4 : dG (A 18) (F 5) 4 (t3 (A 18) (F 5) (0, F 6)) = ((1, a3), 0) := by rw [e3, dG_f]
              have eS : tS (A 18) (F 5) (0, F 6) = (1, a3) := by
                unfold tS
                rw [if_pos ⟨rfl, by (try dsimp only); omega⟩, e4]
              exact eS
          · refine R_s (P := True) (f' := (55, [some (vR 17), some (vR 20), some (vI x), some (vI 1)], [vI 1, vI x, vR 26], LAY (u (u (u A 26 (A 26)) 27 (A 27)) 28 (A 28)) (u (u F 7 (F 7)) 6 a2), 0, 0)) hc45 7 rfl trivial ?_
            refine R_if (t := 62) hc45 rfl rfl (fun (z : 1 = 0) => absurd z (by decide)) (fun (_ : ¬ (1 = 0)) => ?_)
            refine R_s (P := (0 ≤ x ∧ x < ((A 26).length : Int)) ∧ True) (f' := (66, [some (vR 17), some (vR 20), some (vI x), some (vI 1)], [vI 1, vR 17], LAY (u (u (u A 27 (A 27)) 28 (A 28)) 26 (wr (A 26) x 1)) (u (u F 7 (F 7)) 6 a2), 0, 0)) hc45 5 rfl ⟨⟨by omega, by omega⟩, trivial⟩ ?_
            refine R_if (t := 74) hc45 rfl rfl (fun (z : 1 = 0) => absurd z (by decide)) (fun (_ : ¬ (1 = 0)) => ?_)
            refine R_s (P := True) (f' := (76, [some (vR 17), some (vR 20), some (vI x), some (vI 1)], [vS 5, vR 17], LAY (u (u (u A 27 (A 27)) 28 (A 28)) 26 (wr (A 26) x 1)) (u (u F 7 (F 7)) 6 a2), 0, 0)) hc45 2 rfl trivial ?_
            refine R_cv hc45 rfl rfl (l_word5 (A := (u (u (u A 27 (A 27)) 28 (A 28)) 26 (wr (A 26) x 1))) (F := (u (u F 7 (F 7)) 6 a2)) (LENS_u (LENS_u (LENS_u hL (by show (A 27).length = (A 27).length; omega)) (by show (A 28).length = (A 28).length; omega)) (by show (wr (A 26) x 1).length = (A 26).length; simp only [wr_len])) h5 ⟨by (show 0 ≤ a2); omega, by (show a2 ≤ F 5); omega⟩) (fun r G9 hp9 => ?_)
            obtain ⟨b7, a7, rfl, rfl, hb7, hw7, p7, q7⟩ := hp9
            have p7 : 0 ≤ a7 := p7
            have q7 : a7 ≤ F 5 := q7
            refine R_s (f' := (79, [some (vR 17), some (vR 20), some (vI x), some (vI 1)], [vI b7], LAY (u (u (u A 27 (A 27)) 28 (A 28)) 26 (wr (A 26) x 1)) (u (u F 7 (F 7)) 6 a7), 0, 0)) hc45 0 rfl trivial ?_
            refine R_retz hc45 rfl rfl (by omega) ?_
            refine R_s (f' := (26, [some (vR 17), some (vR 20), some (vI x), none], [vI b7], LAY (u (u (u A 27 (A 27)) 28 (A 28)) 26 (wr (A 26) x 1)) (u (u F 7 (F 7)) 6 a7), 0, 0)) hc44 0 rfl trivial ?_
            refine R_if (t := 31) hc44 rfl rfl (fun (c10 : ¬ b7 = 0) => ?_) (fun (c10 : ¬ (¬ b7 = 0)) => ?_)
            · refine R_s (P := True) (f' := (32, [some (vR 17), some (vR 20), some (vI x), none], [vR 17], LAY (u (u (u A 27 (A 27)) 28 (A 28)) 26 (wr (A 26) x 1)) (u (u F 7 (F 7)) 6 a7), 0, 0)) hc44 1 rfl trivial ?_
              refine R_cv hc44 rfl rfl (l_next (A := (u (u (u A 27 (A 27)) 28 (A 28)) 26 (wr (A 26) x 1))) (F := (u (u F 7 (F 7)) 6 a7)) (LENS_u (LENS_u (LENS_u hL (by show (A 27).length = (A 27).length; omega)) (by show (A 28).length = (A 28).length; omega)) (by show (wr (A 26) x 1).length = (A 26).length; simp only [wr_len])) h5 ⟨by (show 0 ≤ a7); omega, by (show a7 ≤ F 5); omega⟩) (fun r G9 hp9 => ?_)
              obtain ⟨e1, rfl⟩ := hp9
              have e2 : r = some (vI (nx (A 18) (F 5) (a7))) := e1
              clear e1
              subst e2
              refine R_s (f' := (35, [some (vR 17), some (vR 20), some (vI x), none], [vI (nx (A 18) (F 5) (a7))], LAY (u (u (u A 27 (A 27)) 28 (A 28)) 26 (wr (A 26) x 1)) (u (u F 7 (F 7)) 6 a7), 0, 0)) hc44 0 rfl trivial ?_
              refine R_s (P := True) (f' := (39, [some (vR 17), some (vR 20), some (vI x), some (vI (nx (A 18) (F 5) (a7)))], [vI 61, vI (nx (A 18) (F 5) (a7))], LAY (u (u (u A 27 (A 27)) 28 (A 28)) 26 (wr (A 26) x 1)) (u (u F 7 (F 7)) 6 a7), 0, 0)) hc44 3 rfl trivial ?_
              refine R_ic (t := 56) hc44 rfl rfl (fun (c11 : nx (A 18) (F 5) (a7) = 61) => ?_) (fun (c11 : ¬ (nx (A 18) (F 5) (a7) = 61)) => ?_)
              · refine R_s (P := (0 ≤ x ∧ x < ((A 27).length : Int)) ∧ inI (a7 + 1) ∧ True) (f' := (75, [some (vR 17), some (vR 20), some (vI x), some (vI (nx (A 18) (F 5) (a7)))], [vI 4, vR 17], LAY (u (u (u A 28 (A 28)) 26 (wr (A 26) x 1)) 27 (wr (A 27) x (nx (A 18) (F 5) (a7)))) (u (u F 7 (F 7)) 6 (a7 + 1)), 0, 0)) hc44 13 rfl ⟨⟨by omega, by omega⟩, ⟨by omega, by omega⟩, trivial⟩ ?_
                refine R_cv hc44 rfl rfl (l_numb (A := (u (u (u A 28 (A 28)) 26 (wr (A 26) x 1)) 27 (wr (A 27) x (nx (A 18) (F 5) (a7))))) (F := (u (u F 7 (F 7)) 6 (a7 + 1))) (LENS_u (LENS_u (LENS_u hL (by show (A 28).length = (A 28).length; omega)) (by show (wr (A 26) x 1).length = (A 26).length; simp only [wr_len])) (by show (wr (A 27) x (nx (A 18) (F 5) (a7))).length = (A 27).length; simp only [wr_len])) h5 ⟨by (show 0 ≤ a7 + 1); omega, by (have := nx_in (l := A 18) (n := F 5) (a := a7) (by omega)); (show a7 + 1 ≤ F 5); omega⟩ (kk := 4) (by decide) rfl) (fun r G9 hp9 => ?_)
                obtain ⟨b8, a8, v8, rfl, rfl, hb8, hw8, p8, q8, w8⟩ := hp9
                have p8 : 0 ≤ a8 := p8
                have q8 : a8 ≤ F 5 := q8
                refine R_s (f' := (78, [some (vR 17), some (vR 20), some (vI x), some (vI (nx (A 18) (F 5) (a7)))], [vI b8], LAY (u (u (u A 28 (A 28)) 26 (wr (A 26) x 1)) 27 (wr (A 27) x (nx (A 18) (F 5) (a7)))) (u (u F 6 a8) 7 v8), 0, 0)) hc44 0 rfl trivial ?_
                refine R_if (t := 83) hc44 rfl rfl (fun (c12 : ¬ b8 = 0) => ?_) (fun (c12 : ¬ (¬ b8 = 0)) => ?_)
                · refine R_s (P := (0 ≤ x ∧ x < ((A 28).length : Int)) ∧ True) (f' := (94, [some (vR 17), some (vR 20), some (vI x), some (vI (nx (A 18) (F 5) (a7)))], [vI 1], LAY (u (u (u A 26 (wr (A 26) x 1)) 27 (wr (A 27) x (nx (A 18) (F 5) (a7)))) 28 (wr (A 28) x v8)) (u (u F 6 a8) 7 v8), 0, 0)) hc44 7 rfl ⟨⟨by omega, by omega⟩, trivial⟩ ?_
                  refine R_retz hc44 rfl rfl (Or.inr rfl) ⟨1, wr (A 26) x 1, wr (A 27) x (nx (A 18) (F 5) (a7)), wr (A 28) x v8, a8, v8, rfl, rfl, (by (try simp only [wr_len]); omega), (by (try simp only [wr_len]); omega), (by (try simp only [wr_len]); omega), by decide, by omega, by first | omega | (have := nx_in (l := A 18) (n := F 5) (a := F 6) (by omega); omega), fun q hq => by rw [rd_wr_n (by omega) (by omega) (by omega)], fun q hq => by rw [rd_wr_n (by omega) (by omega) (by omega)], fun q hq => by rw [rd_wr_n (by omega) (by omega) (by omega)], ?_⟩
                  have ehw1 : b1 = 1 := by omega
                  rw [ehw1] at hw1
                  have hw1n : wD (A 18) (F 5) IFF (0, F 6) = (0, a1) := hw1
                  have ehw2 : b2 = 1 := by omega
                  rw [ehw2] at hw2
                  have hw2n : wD (A 18) (F 5) YY (0, a1) = (0, a2) := hw2
                  have ehw7 : b7 = 1 := by omega
                  rw [ehw7] at hw7
                  have hw7n : wD (A 18) (F 5) EAR (0, a2) = (0, a7) := hw7
                  have ehw8 : b8 = 1 := by omega
                  rw [ehw8] at hw8
                  have hw8n : dG (A 18) (F 5) 4 (0, a7 + 1) = ((0, a8), v8) := hw8
                  have hYe : eE (A 18) (F 5) 121 (0, a1) = (0, a2) := hw2n
                  have e2 : t2 (A 18) (F 5) (0, F 6) = ((0, a7), 0) := by
                    unfold t2
                    rw [hw1n]
                    rw [if_pos rfl]
                    unfold fD
                    (try dsimp only)
                    rw [if_neg (by omega), hYe]
                    rw [if_pos ⟨rfl, by (try dsimp only); omega⟩, hw7n]
                  have e3 : t3 (A 18) (F 5) (0, F 6) = (0, a7 + 1) := by
                    unfold t3
                    rw [e2]
                    rw [if_pos ⟨rfl, by (try dsimp only); omega⟩]
                  have e4 : dG (A 18) (F 5) 4 (t3 (A 18) (F 5) (0, F 6)) = ((0, a8), v8) := by
                    rw [e3]
                    exact hw8n
                  have eS : tS (A 18) (F 5) (0, F 6) = (0, a8) := by
                    unfold tS
                    rw [if_pos ⟨rfl, by (try dsimp only); omega⟩, e4]
                  have eF : tF (A 18) (F 5) (0, F 6) = 0 := by
                    unfold tF
                    rw [if_pos ⟨rfl, by (try dsimp only); omega⟩, e2]
                  have eG : tG (A 18) (F 5) (0, F 6) = nx (A 18) (F 5) (a7) := by
                    unfold tG
                    rw [e2]
                  have eH : tH (A 18) (F 5) (0, F 6) = v8 := by
                    unfold tH
                    rw [e4]
                  refine ⟨eS, fun _ => ⟨?_, .inr ⟨?_, ?_⟩⟩⟩
                  · rw [eF, ← ex, rd_wr_s (by omega) (by (try simp only [wr_len]); omega)]
                    decide
                  · rw [eG, ← ex, rd_wr_s (by omega) (by (try simp only [wr_len]); omega)]
                  · rw [eH, ← ex, rd_wr_s (by omega) (by (try simp only [wr_len]); omega)]
                · refine R_s (P := True) (f' := (82, [some (vR 17), some (vR 20), some (vI x), some (vI (nx (A 18) (F 5) (a7)))], [vI 0], LAY (u (u (u A 28 (A 28)) 26 (wr (A 26) x 1)) 27 (wr (A 27) x (nx (A 18) (F 5) (a7)))) (u (u F 6 a8) 7 v8), 0, 0)) hc44 1 rfl trivial ?_
                  refine R_retz hc44 rfl rfl (Or.inl rfl) ⟨0, wr (A 26) x 1, wr (A 27) x (nx (A 18) (F 5) (a7)), A 28, a8, v8, rfl, rfl, (by (try simp only [wr_len]); omega), (by (try simp only [wr_len]); omega), (by (try simp only [wr_len]); omega), by decide, by omega, by first | omega | (have := nx_in (l := A 18) (n := F 5) (a := F 6) (by omega); omega), fun q hq => by rw [rd_wr_n (by omega) (by omega) (by omega)], fun q hq => by rw [rd_wr_n (by omega) (by omega) (by omega)], fun _ _ => rfl, ?_, fun z => absurd z (by decide)⟩
                  have ehw1 : b1 = 1 := by omega
                  rw [ehw1] at hw1
                  have hw1n : wD (A 18) (F 5) IFF (0, F 6) = (0, a1) := hw1
                  have ehw2 : b2 = 1 := by omega
                  rw [ehw2] at hw2
                  have hw2n : wD (A 18) (F 5) YY (0, a1) = (0, a2) := hw2
                  have ehw7 : b7 = 1 := by omega
                  rw [ehw7] at hw7
                  have hw7n : wD (A 18) (F 5) EAR (0, a2) = (0, a7) := hw7
                  have ehw8 : b8 = 0 := by omega
                  rw [ehw8] at hw8
                  have hw8n : dG (A 18) (F 5) 4 (0, a7 + 1) = ((1, a8), v8) := hw8
                  have hYe : eE (A 18) (F 5) 121 (0, a1) = (0, a2) := hw2n
                  have e2 : t2 (A 18) (F 5) (0, F 6) = ((0, a7), 0) := by
                    unfold t2
                    rw [hw1n]
                    rw [if_pos rfl]
                    unfold fD
                    (try dsimp only)
                    rw [if_neg (by omega), hYe]
                    rw [if_pos ⟨rfl, by (try dsimp only); omega⟩, hw7n]
                  have e3 : t3 (A 18) (F 5) (0, F 6) = (0, a7 + 1) := by
                    unfold t3
                    rw [e2]
                    rw [if_pos ⟨rfl, by (try dsimp only); omega⟩]
                  have e4 : dG (A 18) (F 5) 4 (t3 (A 18) (F 5) (0, F 6)) = ((1, a8), v8) := by
                    rw [e3]
                    exact hw8n
                  have eS : tS (A 18) (F 5) (0, F 6) = (1, a8) := by
                    unfold tS
                    rw [if_pos ⟨rfl, by (try dsimp only); omega⟩, e4]
                  exact eS
              · refine R_s (P := True) (f' := (45, [some (vR 17), some (vR 20), some (vI x), some (vI (nx (A 18) (F 5) (a7)))], [vI 60, vI (nx (A 18) (F 5) (a7))], LAY (u (u (u A 27 (A 27)) 28 (A 28)) 26 (wr (A 26) x 1)) (u (u F 7 (F 7)) 6 a7), 0, 0)) hc44 2 rfl trivial ?_
                refine R_ic (t := 56) hc44 rfl rfl (fun (c13 : nx (A 18) (F 5) (a7) = 60) => ?_) (fun (c13 : ¬ (nx (A 18) (F 5) (a7) = 60)) => ?_)
                · refine R_s (P := (0 ≤ x ∧ x < ((A 27).length : Int)) ∧ inI (a7 + 1) ∧ True) (f' := (75, [some (vR 17), some (vR 20), some (vI x), some (vI (nx (A 18) (F 5) (a7)))], [vI 4, vR 17], LAY (u (u (u A 28 (A 28)) 26 (wr (A 26) x 1)) 27 (wr (A 27) x (nx (A 18) (F 5) (a7)))) (u (u F 7 (F 7)) 6 (a7 + 1)), 0, 0)) hc44 13 rfl ⟨⟨by omega, by omega⟩, ⟨by omega, by omega⟩, trivial⟩ ?_
                  refine R_cv hc44 rfl rfl (l_numb (A := (u (u (u A 28 (A 28)) 26 (wr (A 26) x 1)) 27 (wr (A 27) x (nx (A 18) (F 5) (a7))))) (F := (u (u F 7 (F 7)) 6 (a7 + 1))) (LENS_u (LENS_u (LENS_u hL (by show (A 28).length = (A 28).length; omega)) (by show (wr (A 26) x 1).length = (A 26).length; simp only [wr_len])) (by show (wr (A 27) x (nx (A 18) (F 5) (a7))).length = (A 27).length; simp only [wr_len])) h5 ⟨by (show 0 ≤ a7 + 1); omega, by (have := nx_in (l := A 18) (n := F 5) (a := a7) (by omega)); (show a7 + 1 ≤ F 5); omega⟩ (kk := 4) (by decide) rfl) (fun r G9 hp9 => ?_)
                  obtain ⟨b9, a9, v9, rfl, rfl, hb9, hw9, p9, q9, w9⟩ := hp9
                  have p9 : 0 ≤ a9 := p9
                  have q9 : a9 ≤ F 5 := q9
                  refine R_s (f' := (78, [some (vR 17), some (vR 20), some (vI x), some (vI (nx (A 18) (F 5) (a7)))], [vI b9], LAY (u (u (u A 28 (A 28)) 26 (wr (A 26) x 1)) 27 (wr (A 27) x (nx (A 18) (F 5) (a7)))) (u (u F 6 a9) 7 v9), 0, 0)) hc44 0 rfl trivial ?_
                  refine R_if (t := 83) hc44 rfl rfl (fun (c14 : ¬ b9 = 0) => ?_) (fun (c14 : ¬ (¬ b9 = 0)) => ?_)
                  · refine R_s (P := (0 ≤ x ∧ x < ((A 28).length : Int)) ∧ True) (f' := (94, [some (vR 17), some (vR 20), some (vI x), some (vI (nx (A 18) (F 5) (a7)))], [vI 1], LAY (u (u (u A 26 (wr (A 26) x 1)) 27 (wr (A 27) x (nx (A 18) (F 5) (a7)))) 28 (wr (A 28) x v9)) (u (u F 6 a9) 7 v9), 0, 0)) hc44 7 rfl ⟨⟨by omega, by omega⟩, trivial⟩ ?_
                    refine R_retz hc44 rfl rfl (Or.inr rfl) ⟨1, wr (A 26) x 1, wr (A 27) x (nx (A 18) (F 5) (a7)), wr (A 28) x v9, a9, v9, rfl, rfl, (by (try simp only [wr_len]); omega), (by (try simp only [wr_len]); omega), (by (try simp only [wr_len]); omega), by decide, by omega, by first | omega | (have := nx_in (l := A 18) (n := F 5) (a := F 6) (by omega); omega), fun q hq => by rw [rd_wr_n (by omega) (by omega) (by omega)], fun q hq => by rw [rd_wr_n (by omega) (by omega) (by omega)], fun q hq => by rw [rd_wr_n (by omega) (by omega) (by omega)], ?_⟩
                    have ehw1 : b1 = 1 := by omega
                    rw [ehw1] at hw1
                    have hw1n : wD (A 18) (F 5) IFF (0, F 6) = (0, a1) := hw1
                    have ehw2 : b2 = 1 := by omega
                    rw [ehw2] at hw2
                    have hw2n : wD (A 18) (F 5) YY (0, a1) = (0, a2) := hw2
                    have ehw7 : b7 = 1 := by omega
                    rw [ehw7] at hw7
                    have hw7n : wD (A 18) (F 5) EAR (0, a2) = (0, a7) := hw7
                    have ehw9 : b9 = 1 := by omega
                    rw [ehw9] at hw9
                    have hw9n : dG (A 18) (F 5) 4 (0, a7 + 1) = ((0, a9), v9) := hw9
                    have hYe : eE (A 18) (F 5) 121 (0, a1) = (0, a2) := hw2n
                    have e2 : t2 (A 18) (F 5) (0, F 6) = ((0, a7), 0) := by
                      unfold t2
                      rw [hw1n]
                      rw [if_pos rfl]
                      unfold fD
                      (try dsimp only)
                      rw [if_neg (by omega), hYe]
                      rw [if_pos ⟨rfl, by (try dsimp only); omega⟩, hw7n]
                    have e3 : t3 (A 18) (F 5) (0, F 6) = (0, a7 + 1) := by
                      unfold t3
                      rw [e2]
                      rw [if_pos ⟨rfl, by (try dsimp only); omega⟩]
                    have e4 : dG (A 18) (F 5) 4 (t3 (A 18) (F 5) (0, F 6)) = ((0, a9), v9) := by
                      rw [e3]
                      exact hw9n
                    have eS : tS (A 18) (F 5) (0, F 6) = (0, a9) := by
                      unfold tS
                      rw [if_pos ⟨rfl, by (try dsimp only); omega⟩, e4]
                    have eF : tF (A 18) (F 5) (0, F 6) = 0 := by
                      unfold tF
                      rw [if_pos ⟨rfl, by (try dsimp only); omega⟩, e2]
                    have eG : tG (A 18) (F 5) (0, F 6) = nx (A 18) (F 5) (a7) := by
                      unfold tG
                      rw [e2]
                    have eH : tH (A 18) (F 5) (0, F 6) = v9 := by
                      unfold tH
                      rw [e4]
                    refine ⟨eS, fun _ => ⟨?_, .inr ⟨?_, ?_⟩⟩⟩
                    · rw [eF, ← ex, rd_wr_s (by omega) (by (try simp only [wr_len]); omega)]
                      decide
                    · rw [eG, ← ex, rd_wr_s (by omega) (by (try simp only [wr_len]); omega)]
                    · rw [eH, ← ex, rd_wr_s (by omega) (by (try simp only [wr_len]); omega)]
                  · refine R_s (P := True) (f' := (82, [some (vR 17), some (vR 20), some (vI x), some (vI (nx (A 18) (F 5) (a7)))], [vI 0], LAY (u (u (u A 28 (A 28)) 26 (wr (A 26) x 1)) 27 (wr (A 27) x (nx (A 18) (F 5) (a7)))) (u (u F 6 a9) 7 v9), 0, 0)) hc44 1 rfl trivial ?_
                    refine R_retz hc44 rfl rfl (Or.inl rfl) ⟨0, wr (A 26) x 1, wr (A 27) x (nx (A 18) (F 5) (a7)), A 28, a9, v9, rfl, rfl, (by (try simp only [wr_len]); omega), (by (try simp only [wr_len]); omega), (by (try simp only [wr_len]); omega), by decide, by omega, by first | omega | (have := nx_in (l := A 18) (n := F 5) (a := F 6) (by omega); omega), fun q hq => by rw [rd_wr_n (by omega) (by omega) (by omega)], fun q hq => by rw [rd_wr_n (by omega) (by omega) (by omega)], fun _ _ => rfl, ?_, fun z => absurd z (by decide)⟩
                    have ehw1 : b1 = 1 := by omega
                    rw [ehw1] at hw1
                    have hw1n : wD (A 18) (F 5) IFF (0, F 6) = (0, a1) := hw1
                    have ehw2 : b2 = 1 := by omega
                    rw [ehw2] at hw2
                    have hw2n : wD (A 18) (F 5) YY (0, a1) = (0, a2) := hw2
                    have ehw7 : b7 = 1 := by omega
                    rw [ehw7] at hw7
                    have hw7n : wD (A 18) (F 5) EAR (0, a2) = (0, a7) := hw7
                    have ehw9 : b9 = 0 := by omega
                    rw [ehw9] at hw9
                    have hw9n : dG (A 18) (F 5) 4 (0, a7 + 1) = ((1, a9), v9) := hw9
                    have hYe : eE (A 18) (F 5) 121 (0, a1) = (0, a2) := hw2n
                    have e2 : t2 (A 18) (F 5) (0, F 6) = ((0, a7), 0) := by
                      unfold t2
                      rw [hw1n]
                      rw [if_pos rfl]
                      unfold fD
                      (try dsimp only)
                      rw [if_neg (by omega), hYe]
                      rw [if_pos ⟨rfl, by (try dsimp only); omega⟩, hw7n]
                    have e3 : t3 (A 18) (F 5) (0, F 6) = (0, a7 + 1) := by
                      unfold t3
                      rw [e2]
                      rw [if_pos ⟨rfl, by (try dsimp only); omega⟩]
                    have e4 : dG (A 18) (F 5) 4 (t3 (A 18) (F 5) (0, F 6)) = ((1, a9), v9) := by
                      rw [e3]
                      exact hw9n
                    have eS : tS (A 18) (F 5) (0, F 6) = (1, a9) := by
                      unfold tS
                      rw [if_pos ⟨rfl, by (try dsimp only); omega⟩, e4]
                    exact eS
                · refine R_s (P := True) (f' := (51, [some (vR 17), some (vR 20), some (vI x), some (vI (nx (A 18) (F 5) (a7)))], [vI 62, vI (nx (A 18) (F 5) (a7))], LAY (u (u (u A 27 (A 27)) 28 (A 28)) 26 (wr (A 26) x 1)) (u (u F 7 (F 7)) 6 a7), 0, 0)) hc44 2 rfl trivial ?_
                  refine R_ic (t := 56) hc44 rfl rfl (fun (c15 : nx (A 18) (F 5) (a7) = 62) => ?_) (fun (c15 : ¬ (nx (A 18) (F 5) (a7) = 62)) => ?_)
                  · refine R_s (P := (0 ≤ x ∧ x < ((A 27).length : Int)) ∧ inI (a7 + 1) ∧ True) (f' := (75, [some (vR 17), some (vR 20), some (vI x), some (vI (nx (A 18) (F 5) (a7)))], [vI 4, vR 17], LAY (u (u (u A 28 (A 28)) 26 (wr (A 26) x 1)) 27 (wr (A 27) x (nx (A 18) (F 5) (a7)))) (u (u F 7 (F 7)) 6 (a7 + 1)), 0, 0)) hc44 13 rfl ⟨⟨by omega, by omega⟩, ⟨by omega, by omega⟩, trivial⟩ ?_
                    refine R_cv hc44 rfl rfl (l_numb (A := (u (u (u A 28 (A 28)) 26 (wr (A 26) x 1)) 27 (wr (A 27) x (nx (A 18) (F 5) (a7))))) (F := (u (u F 7 (F 7)) 6 (a7 + 1))) (LENS_u (LENS_u (LENS_u hL (by show (A 28).length = (A 28).length; omega)) (by show (wr (A 26) x 1).length = (A 26).length; simp only [wr_len])) (by show (wr (A 27) x (nx (A 18) (F 5) (a7))).length = (A 27).length; simp only [wr_len])) h5 ⟨by (show 0 ≤ a7 + 1); omega, by (have := nx_in (l := A 18) (n := F 5) (a := a7) (by omega)); (show a7 + 1 ≤ F 5); omega⟩ (kk := 4) (by decide) rfl) (fun r G9 hp9 => ?_)
                    obtain ⟨b10, a10, v10, rfl, rfl, hb10, hw10, p10, q10, w10⟩ := hp9
                    have p10 : 0 ≤ a10 := p10
                    have q10 : a10 ≤ F 5 := q10
                    refine R_s (f' := (78, [some (vR 17), some (vR 20), some (vI x), some (vI (nx (A 18) (F 5) (a7)))], [vI b10], LAY (u (u (u A 28 (A 28)) 26 (wr (A 26) x 1)) 27 (wr (A 27) x (nx (A 18) (F 5) (a7)))) (u (u F 6 a10) 7 v10), 0, 0)) hc44 0 rfl trivial ?_
                    refine R_if (t := 83) hc44 rfl rfl (fun (c16 : ¬ b10 = 0) => ?_) (fun (c16 : ¬ (¬ b10 = 0)) => ?_)
                    · refine R_s (P := (0 ≤ x ∧ x < ((A 28).length : Int)) ∧ True) (f' := (94, [some (vR 17), some (vR 20), some (vI x), some (vI (nx (A 18) (F 5) (a7)))], [vI 1], LAY (u (u (u A 26 (wr (A 26) x 1)) 27 (wr (A 27) x (nx (A 18) (F 5) (a7)))) 28 (wr (A 28) x v10)) (u (u F 6 a10) 7 v10), 0, 0)) hc44 7 rfl ⟨⟨by omega, by omega⟩, trivial⟩ ?_
                      refine R_retz hc44 rfl rfl (Or.inr rfl) ⟨1, wr (A 26) x 1, wr (A 27) x (nx (A 18) (F 5) (a7)), wr (A 28) x v10, a10, v10, rfl, rfl, (by (try simp only [wr_len]); omega), (by (try simp only [wr_len]); omega), (by (try simp only [wr_len]); omega), by decide, by omega, by first | omega | (have := nx_in (l := A 18) (n := F 5) (a := F 6) (by omega); omega), fun q hq => by rw [rd_wr_n (by omega) (by omega) (by omega)], fun q hq => by rw [rd_wr_n (by omega) (by omega) (by omega)], fun q hq => by rw [rd_wr_n (by omega) (by omega) (by omega)], ?_⟩
                      have ehw1 : b1 = 1 := by omega
                      rw [ehw1] at hw1
                      have hw1n : wD (A 18) (F 5) IFF (0, F 6) = (0, a1) := hw1
                      have ehw2 : b2 = 1 := by omega
                      rw [ehw2] at hw2
                      have hw2n : wD (A 18) (F 5) YY (0, a1) = (0, a2) := hw2
                      have ehw7 : b7 = 1 := by omega
                      rw [ehw7] at hw7
                      have hw7n : wD (A 18) (F 5) EAR (0, a2) = (0, a7) := hw7
                      have ehw10 : b10 = 1 := by omega
                      rw [ehw10] at hw10
                      have hw10n : dG (A 18) (F 5) 4 (0, a7 + 1) = ((0, a10), v10) := hw10
                      have hYe : eE (A 18) (F 5) 121 (0, a1) = (0, a2) := hw2n
                      have e2 : t2 (A 18) (F 5) (0, F 6) = ((0, a7), 0) := by
                        unfold t2
                        rw [hw1n]
                        rw [if_pos rfl]
                        unfold fD
                        (try dsimp only)
                        rw [if_neg (by omega), hYe]
                        rw [if_pos ⟨rfl, by (try dsimp only); omega⟩, hw7n]
                      have e3 : t3 (A 18) (F 5) (0, F 6) = (0, a7 + 1) := by
                        unfold t3
                        rw [e2]
                        rw [if_pos ⟨rfl, by (try dsimp only); omega⟩]
                      have e4 : dG (A 18) (F 5) 4 (t3 (A 18) (F 5) (0, F 6)) = ((0, a10), v10) := by
                        rw [e3]
                        exact hw10n
                      have eS : tS (A 18) (F 5) (0, F 6) = (0, a10) := by
                        unfold tS
                        rw [if_pos ⟨rfl, by (try dsimp only); omega⟩, e4]
                      have eF : tF (A 18) (F 5) (0, F 6) = 0 := by
                        unfold tF
                        rw [if_pos ⟨rfl, by (try dsimp only); omega⟩, e2]
                      have eG : tG (A 18) (F 5) (0, F 6) = nx (A 18) (F 5) (a7) := by
                        unfold tG
                        rw [e2]
                      have eH : tH (A 18) (F 5) (0, F 6) = v10 := by
                        unfold tH
                        rw [e4]
                      refine ⟨eS, fun _ => ⟨?_, .inr ⟨?_, ?_⟩⟩⟩
                      · rw [eF, ← ex, rd_wr_s (by omega) (by (try simp only [wr_len]); omega)]
                        decide
                      · rw [eG, ← ex, rd_wr_s (by omega) (by (try simp only [wr_len]); omega)]
                      · rw [eH, ← ex, rd_wr_s (by omega) (by (try simp only [wr_len]); omega)]
                    · refine R_s (P := True) (f' := (82, [some (vR 17), some (vR 20), some (vI x), some (vI (nx (A 18) (F 5) (a7)))], [vI 0], LAY (u (u (u A 28 (A 28)) 26 (wr (A 26) x 1)) 27 (wr (A 27) x (nx (A 18) (F 5) (a7)))) (u (u F 6 a10) 7 v10), 0, 0)) hc44 1 rfl trivial ?_
                      refine R_retz hc44 rfl rfl (Or.inl rfl) ⟨0, wr (A 26) x 1, wr (A 27) x (nx (A 18) (F 5) (a7)), A 28, a10, v10, rfl, rfl, (by (try simp only [wr_len]); omega), (by (try simp only [wr_len]); omega), (by (try simp only [wr_len]); omega), by decide, by omega, by first | omega | (have := nx_in (l := A 18) (n := F 5) (a := F 6) (by omega); omega), fun q hq => by rw [rd_wr_n (by omega) (by omega) (by omega)], fun q hq => by rw [rd_wr_n (by omega) (by omega) (by omega)], fun _ _ => rfl, ?_, fun z => absurd z (by decide)⟩
                      have ehw1 : b1 = 1 := by omega
                      rw [ehw1] at hw1
                      have hw1n : wD (A 18) (F 5) IFF (0, F 6) = (0, a1) := hw1
                      have ehw2 : b2 = 1 := by omega
                      rw [ehw2] at hw2
                      have hw2n : wD (A 18) (F 5) YY (0, a1) = (0, a2) := hw2
                      have ehw7 : b7 = 1 := by omega
                      rw [ehw7] at hw7
                      have hw7n : wD (A 18) (F 5) EAR (0, a2) = (0, a7) := hw7
                      have ehw10 : b10 = 0 := by omega
                      rw [ehw10] at hw10
                      have hw10n : dG (A 18) (F 5) 4 (0, a7 + 1) = ((1, a10), v10) := hw10
                      have hYe : eE (A 18) (F 5) 121 (0, a1) = (0, a2) := hw2n
                      have e2 : t2 (A 18) (F 5) (0, F 6) = ((0, a7), 0) := by
                        unfold t2
                        rw [hw1n]
                        rw [if_pos rfl]
                        unfold fD
                        (try dsimp only)
                        rw [if_neg (by omega), hYe]
                        rw [if_pos ⟨rfl, by (try dsimp only); omega⟩, hw7n]
                      have e3 : t3 (A 18) (F 5) (0, F 6) = (0, a7 + 1) := by
                        unfold t3
                        rw [e2]
                        rw [if_pos ⟨rfl, by (try dsimp only); omega⟩]
                      have e4 : dG (A 18) (F 5) 4 (t3 (A 18) (F 5) (0, F 6)) = ((1, a10), v10) := by
                        rw [e3]
                        exact hw10n
                      have eS : tS (A 18) (F 5) (0, F 6) = (1, a10) := by
                        unfold tS
                        rw [if_pos ⟨rfl, by (try dsimp only); omega⟩, e4]
                      exact eS
                  · refine R_s (P := True) (f' := (55, [some (vR 17), some (vR 20), some (vI x), some (vI (nx (A 18) (F 5) (a7)))], [vI 0], LAY (u (u (u A 27 (A 27)) 28 (A 28)) 26 (wr (A 26) x 1)) (u (u F 7 (F 7)) 6 a7), 0, 0)) hc44 1 rfl trivial ?_
                    refine R_retz hc44 rfl rfl (Or.inl rfl) ⟨0, wr (A 26) x 1, A 27, A 28, a7, F 7, rfl, rfl, (by (try simp only [wr_len]); omega), (by (try simp only [wr_len]); omega), (by (try simp only [wr_len]); omega), by decide, by omega, by first | omega | (have := nx_in (l := A 18) (n := F 5) (a := F 6) (by omega); omega), fun q hq => by rw [rd_wr_n (by omega) (by omega) (by omega)], fun _ _ => rfl, fun _ _ => rfl, ?_, fun z => absurd z (by decide)⟩
                    have ehw1 : b1 = 1 := by omega
                    rw [ehw1] at hw1
                    have hw1n : wD (A 18) (F 5) IFF (0, F 6) = (0, a1) := hw1
                    have ehw2 : b2 = 1 := by omega
                    rw [ehw2] at hw2
                    have hw2n : wD (A 18) (F 5) YY (0, a1) = (0, a2) := hw2
                    have ehw7 : b7 = 1 := by omega
                    rw [ehw7] at hw7
                    have hw7n : wD (A 18) (F 5) EAR (0, a2) = (0, a7) := hw7
                    have hYe : eE (A 18) (F 5) 121 (0, a1) = (0, a2) := hw2n
                    have e2 : t2 (A 18) (F 5) (0, F 6) = ((0, a7), 0) := by
                      unfold t2
                      rw [hw1n]
                      rw [if_pos rfl]
                      unfold fD
                      (try dsimp only)
                      rw [if_neg (by omega), hYe]
                      rw [if_pos ⟨rfl, by (try dsimp only); omega⟩, hw7n]
                    have e3 : t3 (A 18) (F 5) (0, F 6) = (1, a7) := by
                      unfold t3
                      rw [e2]
                      rw [if_neg (fun z => by have := z.2; (try dsimp only at this); omega)]
                    have e4 : dG (A 18) (F 5) 4 (t3 (A 18) (F 5) (0, F 6)) = ((1, a7), 0) := by rw [e3, dG_f]
                    have eS : tS (A 18) (F 5) (0, F 6) = (1, a7) := by
                      unfold tS
                      rw [if_pos ⟨rfl, by (try dsimp only); omega⟩, e4]
                    exact eS
            · refine R_s (P := True) (f' := (30, [some (vR 17), some (vR 20), some (vI x), none], [vI 0], LAY (u (u (u A 27 (A 27)) 28 (A 28)) 26 (wr (A 26) x 1)) (u (u F 7 (F 7)) 6 a7), 0, 0)) hc44 1 rfl trivial ?_
              refine R_retz hc44 rfl rfl (Or.inl rfl) ⟨0, wr (A 26) x 1, A 27, A 28, a7, F 7, rfl, rfl, (by (try simp only [wr_len]); omega), (by (try simp only [wr_len]); omega), (by (try simp only [wr_len]); omega), by decide, by omega, by first | omega | (have := nx_in (l := A 18) (n := F 5) (a := F 6) (by omega); omega), fun q hq => by rw [rd_wr_n (by omega) (by omega) (by omega)], fun _ _ => rfl, fun _ _ => rfl, ?_, fun z => absurd z (by decide)⟩
              have ehw1 : b1 = 1 := by omega
              rw [ehw1] at hw1
              have hw1n : wD (A 18) (F 5) IFF (0, F 6) = (0, a1) := hw1
              have ehw2 : b2 = 1 := by omega
              rw [ehw2] at hw2
              have hw2n : wD (A 18) (F 5) YY (0, a1) = (0, a2) := hw2
              have ehw7 : b7 = 0 := by omega
              rw [ehw7] at hw7
              have hw7n : wD (A 18) (F 5) EAR (0, a2) = (1, a7) := hw7
              have hYe : eE (A 18) (F 5) 121 (0, a1) = (0, a2) := hw2n
              have e2 : t2 (A 18) (F 5) (0, F 6) = ((1, a7), 0) := by
                unfold t2
                rw [hw1n]
                rw [if_pos rfl]
                unfold fD
                (try dsimp only)
                rw [if_neg (by omega), hYe]
                rw [if_pos ⟨rfl, by (try dsimp only); omega⟩, hw7n]
              have e3 : t3 (A 18) (F 5) (0, F 6) = (1, a7) := by
                unfold t3
                rw [e2]
                rw [if_neg (fun z => absurd (show (1 : Int) = 0 from z.1) (by decide))]
              have e4 : dG (A 18) (F 5) 4 (t3 (A 18) (F 5) (0, F 6)) = ((1, a7), 0) := by rw [e3, dG_f]
              have eS : tS (A 18) (F 5) (0, F 6) = (1, a7) := by
                unfold tS
                rw [if_pos ⟨rfl, by (try dsimp only); omega⟩, e4]
              exact eS
        · refine R_s (P := True) (f' := (33, [some (vR 17), some (vR 20), some (vI x), none], [vI 0], LAY (u (u (u A 26 (A 26)) 27 (A 27)) 28 (A 28)) (u (u F 7 (F 7)) 6 a2), 0, 0)) hc45 1 rfl trivial ?_
          refine R_retz hc45 rfl rfl (Or.inl rfl) ?_
          refine R_s (f' := (26, [some (vR 17), some (vR 20), some (vI x), none], [vI 0], LAY (u (u (u A 26 (A 26)) 27 (A 27)) 28 (A 28)) (u (u F 7 (F 7)) 6 a2), 0, 0)) hc44 0 rfl trivial ?_
          refine R_if (t := 31) hc44 rfl rfl (fun (z : ¬ 0 = 0) => absurd z (by decide)) (fun (_ : ¬ (¬ 0 = 0)) => ?_)
          refine R_s (P := True) (f' := (30, [some (vR 17), some (vR 20), some (vI x), none], [vI 0], LAY (u (u (u A 26 (A 26)) 27 (A 27)) 28 (A 28)) (u (u F 7 (F 7)) 6 a2), 0, 0)) hc44 1 rfl trivial ?_
          refine R_retz hc44 rfl rfl (Or.inl rfl) ⟨0, A 26, A 27, A 28, a2, F 7, rfl, rfl, (by (try simp only [wr_len]); omega), (by (try simp only [wr_len]); omega), (by (try simp only [wr_len]); omega), by decide, by omega, by first | omega | (have := nx_in (l := A 18) (n := F 5) (a := F 6) (by omega); omega), fun _ _ => rfl, fun _ _ => rfl, fun _ _ => rfl, ?_, fun z => absurd z (by decide)⟩
          have ehw1 : b1 = 1 := by omega
          rw [ehw1] at hw1
          have hw1n : wD (A 18) (F 5) IFF (0, F 6) = (0, a1) := hw1
          have ehw2 : b2 = 0 := by omega
          rw [ehw2] at hw2
          have hw2n : wD (A 18) (F 5) YY (0, a1) = (1, a2) := hw2
          have hYe : eE (A 18) (F 5) 121 (0, a1) = (1, a2) := hw2n
          have e2 : t2 (A 18) (F 5) (0, F 6) = ((1, a2), 1) := by
            unfold t2
            rw [hw1n]
            rw [if_pos rfl]
            unfold fD
            (try dsimp only)
            rw [if_neg (by omega), hYe]
            rw [if_neg (fun z => absurd (show (1 : Int) = 0 from z.1) (by decide)), wD_f]
          have e3 : t3 (A 18) (F 5) (0, F 6) = (1, a2) := by
            unfold t3
            rw [e2]
            rw [if_neg (fun z => absurd (show (1 : Int) = 0 from z.1) (by decide))]
          have e4 : dG (A 18) (F 5) 4 (t3 (A 18) (F 5) (0, F 6)) = ((1, a2), 0) := by rw [e3, dG_f]
          have eS : tS (A 18) (F 5) (0, F 6) = (1, a2) := by
            unfold tS
            rw [if_pos ⟨rfl, by (try dsimp only); omega⟩, e4]
          exact eS
      · refine R_s (P := (0 ≤ x ∧ x < ((A 26).length : Int)) ∧ True) (f' := (19, [some (vR 17), some (vR 20), some (vI x), none], [vS 3, vR 17], LAY (u (u (u A 27 (A 27)) 28 (A 28)) 26 (wr (A 26) x 3)) (u (u F 7 (F 7)) 6 a1), 0, 0)) hc45 7 rfl ⟨⟨by omega, by omega⟩, trivial⟩ ?_
        refine R_cv hc45 rfl rfl (l_word3 (A := (u (u (u A 27 (A 27)) 28 (A 28)) 26 (wr (A 26) x 3))) (F := (u (u F 7 (F 7)) 6 a1)) (LENS_u (LENS_u (LENS_u hL (by show (A 27).length = (A 27).length; omega)) (by show (A 28).length = (A 28).length; omega)) (by show (wr (A 26) x 3).length = (A 26).length; simp only [wr_len])) h5 ⟨by (show 0 ≤ a1); omega, by (show a1 ≤ F 5); omega⟩) (fun r G9 hp9 => ?_)
        obtain ⟨b11, a11, rfl, rfl, hb11, hw11, p11, q11⟩ := hp9
        have p11 : 0 ≤ a11 := p11
        have q11 : a11 ≤ F 5 := q11
        refine R_s (f' := (22, [some (vR 17), some (vR 20), some (vI x), none], [vI b11], LAY (u (u (u A 27 (A 27)) 28 (A 28)) 26 (wr (A 26) x 3)) (u (u F 7 (F 7)) 6 a11), 0, 0)) hc45 0 rfl trivial ?_
        refine R_retz hc45 rfl rfl (by omega) ?_
        refine R_s (f' := (26, [some (vR 17), some (vR 20), some (vI x), none], [vI b11], LAY (u (u (u A 27 (A 27)) 28 (A 28)) 26 (wr (A 26) x 3)) (u (u F 7 (F 7)) 6 a11), 0, 0)) hc44 0 rfl trivial ?_
        refine R_if (t := 31) hc44 rfl rfl (fun (c10 : ¬ b11 = 0) => ?_) (fun (c10 : ¬ (¬ b11 = 0)) => ?_)
        · refine R_s (P := True) (f' := (32, [some (vR 17), some (vR 20), some (vI x), none], [vR 17], LAY (u (u (u A 27 (A 27)) 28 (A 28)) 26 (wr (A 26) x 3)) (u (u F 7 (F 7)) 6 a11), 0, 0)) hc44 1 rfl trivial ?_
          refine R_cv hc44 rfl rfl (l_next (A := (u (u (u A 27 (A 27)) 28 (A 28)) 26 (wr (A 26) x 3))) (F := (u (u F 7 (F 7)) 6 a11)) (LENS_u (LENS_u (LENS_u hL (by show (A 27).length = (A 27).length; omega)) (by show (A 28).length = (A 28).length; omega)) (by show (wr (A 26) x 3).length = (A 26).length; simp only [wr_len])) h5 ⟨by (show 0 ≤ a11); omega, by (show a11 ≤ F 5); omega⟩) (fun r G9 hp9 => ?_)
          obtain ⟨e1, rfl⟩ := hp9
          have e2 : r = some (vI (nx (A 18) (F 5) (a11))) := e1
          clear e1
          subst e2
          refine R_s (f' := (35, [some (vR 17), some (vR 20), some (vI x), none], [vI (nx (A 18) (F 5) (a11))], LAY (u (u (u A 27 (A 27)) 28 (A 28)) 26 (wr (A 26) x 3)) (u (u F 7 (F 7)) 6 a11), 0, 0)) hc44 0 rfl trivial ?_
          refine R_s (P := True) (f' := (39, [some (vR 17), some (vR 20), some (vI x), some (vI (nx (A 18) (F 5) (a11)))], [vI 61, vI (nx (A 18) (F 5) (a11))], LAY (u (u (u A 27 (A 27)) 28 (A 28)) 26 (wr (A 26) x 3)) (u (u F 7 (F 7)) 6 a11), 0, 0)) hc44 3 rfl trivial ?_
          refine R_ic (t := 56) hc44 rfl rfl (fun (c11 : nx (A 18) (F 5) (a11) = 61) => ?_) (fun (c11 : ¬ (nx (A 18) (F 5) (a11) = 61)) => ?_)
          · refine R_s (P := (0 ≤ x ∧ x < ((A 27).length : Int)) ∧ inI (a11 + 1) ∧ True) (f' := (75, [some (vR 17), some (vR 20), some (vI x), some (vI (nx (A 18) (F 5) (a11)))], [vI 4, vR 17], LAY (u (u (u A 28 (A 28)) 26 (wr (A 26) x 3)) 27 (wr (A 27) x (nx (A 18) (F 5) (a11)))) (u (u F 7 (F 7)) 6 (a11 + 1)), 0, 0)) hc44 13 rfl ⟨⟨by omega, by omega⟩, ⟨by omega, by omega⟩, trivial⟩ ?_
            refine R_cv hc44 rfl rfl (l_numb (A := (u (u (u A 28 (A 28)) 26 (wr (A 26) x 3)) 27 (wr (A 27) x (nx (A 18) (F 5) (a11))))) (F := (u (u F 7 (F 7)) 6 (a11 + 1))) (LENS_u (LENS_u (LENS_u hL (by show (A 28).length = (A 28).length; omega)) (by show (wr (A 26) x 3).length = (A 26).length; simp only [wr_len])) (by show (wr (A 27) x (nx (A 18) (F 5) (a11))).length = (A 27).length; simp only [wr_len])) h5 ⟨by (show 0 ≤ a11 + 1); omega, by (have := nx_in (l := A 18) (n := F 5) (a := a11) (by omega)); (show a11 + 1 ≤ F 5); omega⟩ (kk := 4) (by decide) rfl) (fun r G9 hp9 => ?_)
            obtain ⟨b12, a12, v12, rfl, rfl, hb12, hw12, p12, q12, w12⟩ := hp9
            have p12 : 0 ≤ a12 := p12
            have q12 : a12 ≤ F 5 := q12
            refine R_s (f' := (78, [some (vR 17), some (vR 20), some (vI x), some (vI (nx (A 18) (F 5) (a11)))], [vI b12], LAY (u (u (u A 28 (A 28)) 26 (wr (A 26) x 3)) 27 (wr (A 27) x (nx (A 18) (F 5) (a11)))) (u (u F 6 a12) 7 v12), 0, 0)) hc44 0 rfl trivial ?_
            refine R_if (t := 83) hc44 rfl rfl (fun (c12 : ¬ b12 = 0) => ?_) (fun (c12 : ¬ (¬ b12 = 0)) => ?_)
            · refine R_s (P := (0 ≤ x ∧ x < ((A 28).length : Int)) ∧ True) (f' := (94, [some (vR 17), some (vR 20), some (vI x), some (vI (nx (A 18) (F 5) (a11)))], [vI 1], LAY (u (u (u A 26 (wr (A 26) x 3)) 27 (wr (A 27) x (nx (A 18) (F 5) (a11)))) 28 (wr (A 28) x v12)) (u (u F 6 a12) 7 v12), 0, 0)) hc44 7 rfl ⟨⟨by omega, by omega⟩, trivial⟩ ?_
              refine R_retz hc44 rfl rfl (Or.inr rfl) ⟨1, wr (A 26) x 3, wr (A 27) x (nx (A 18) (F 5) (a11)), wr (A 28) x v12, a12, v12, rfl, rfl, (by (try simp only [wr_len]); omega), (by (try simp only [wr_len]); omega), (by (try simp only [wr_len]); omega), by decide, by omega, by first | omega | (have := nx_in (l := A 18) (n := F 5) (a := F 6) (by omega); omega), fun q hq => by rw [rd_wr_n (by omega) (by omega) (by omega)], fun q hq => by rw [rd_wr_n (by omega) (by omega) (by omega)], fun q hq => by rw [rd_wr_n (by omega) (by omega) (by omega)], ?_⟩
              have ehw1 : b1 = 1 := by omega
              rw [ehw1] at hw1
              have hw1n : wD (A 18) (F 5) IFF (0, F 6) = (0, a1) := hw1
              have ehw11 : b11 = 1 := by omega
              rw [ehw11] at hw11
              have hw11n : wD (A 18) (F 5) ALIVE (0, a1) = (0, a11) := hw11
              have ehw12 : b12 = 1 := by omega
              rw [ehw12] at hw12
              have hw12n : dG (A 18) (F 5) 4 (0, a11 + 1) = ((0, a12), v12) := hw12
              have e2 : t2 (A 18) (F 5) (0, F 6) = ((0, a11), 2) := by
                unfold t2
                rw [hw1n]
                rw [if_pos rfl]
                unfold fD
                (try dsimp only)
                rw [if_pos (by omega), hw11n]
              have e3 : t3 (A 18) (F 5) (0, F 6) = (0, a11 + 1) := by
                unfold t3
                rw [e2]
                rw [if_pos ⟨rfl, by (try dsimp only); omega⟩]
              have e4 : dG (A 18) (F 5) 4 (t3 (A 18) (F 5) (0, F 6)) = ((0, a12), v12) := by
                rw [e3]
                exact hw12n
              have eS : tS (A 18) (F 5) (0, F 6) = (0, a12) := by
                unfold tS
                rw [if_pos ⟨rfl, by (try dsimp only); omega⟩, e4]
              have eF : tF (A 18) (F 5) (0, F 6) = 2 := by
                unfold tF
                rw [if_pos ⟨rfl, by (try dsimp only); omega⟩, e2]
              have eG : tG (A 18) (F 5) (0, F 6) = nx (A 18) (F 5) (a11) := by
                unfold tG
                rw [e2]
              have eH : tH (A 18) (F 5) (0, F 6) = v12 := by
                unfold tH
                rw [e4]
              refine ⟨eS, fun _ => ⟨?_, .inr ⟨?_, ?_⟩⟩⟩
              · rw [eF, ← ex, rd_wr_s (by omega) (by (try simp only [wr_len]); omega)]
                decide
              · rw [eG, ← ex, rd_wr_s (by omega) (by (try simp only [wr_len]); omega)]
              · rw [eH, ← ex, rd_wr_s (by omega) (by (try simp only [wr_len]); omega)]
            · refine R_s (P := True) (f' := (82, [some (vR 17), some (vR 20), some (vI x), some (vI (nx (A 18) (F 5) (a11)))], [vI 0], LAY (u (u (u A 28 (A 28)) 26 (wr (A 26) x 3)) 27 (wr (A 27) x (nx (A 18) (F 5) (a11)))) (u (u F 6 a12) 7 v12), 0, 0)) hc44 1 rfl trivial ?_
              refine R_retz hc44 rfl rfl (Or.inl rfl) ⟨0, wr (A 26) x 3, wr (A 27) x (nx (A 18) (F 5) (a11)), A 28, a12, v12, rfl, rfl, (by (try simp only [wr_len]); omega), (by (try simp only [wr_len]); omega), (by (try simp only [wr_len]); omega), by decide, by omega, by first | omega | (have := nx_in (l := A 18) (n := F 5) (a := F 6) (by omega); omega), fun q hq => by rw [rd_wr_n (by omega) (by omega) (by omega)], fun q hq => by rw [rd_wr_n (by omega) (by omega) (by omega)], fun _ _ => rfl, ?_, fun z => absurd z (by decide)⟩
              have ehw1 : b1 = 1 := by omega
              rw [ehw1] at hw1
              have hw1n : wD (A 18) (F 5) IFF (0, F 6) = (0, a1) := hw1
              have ehw11 : b11 = 1 := by omega
              rw [ehw11] at hw11
              have hw11n : wD (A 18) (F 5) ALIVE (0, a1) = (0, a11) := hw11
              have ehw12 : b12 = 0 := by omega
              rw [ehw12] at hw12
              have hw12n : dG (A 18) (F 5) 4 (0, a11 + 1) = ((1, a12), v12) := hw12
              have e2 : t2 (A 18) (F 5) (0, F 6) = ((0, a11), 2) := by
                unfold t2
                rw [hw1n]
                rw [if_pos rfl]
                unfold fD
                (try dsimp only)
                rw [if_pos (by omega), hw11n]
              have e3 : t3 (A 18) (F 5) (0, F 6) = (0, a11 + 1) := by
                unfold t3
                rw [e2]
                rw [if_pos ⟨rfl, by (try dsimp only); omega⟩]
              have e4 : dG (A 18) (F 5) 4 (t3 (A 18) (F 5) (0, F 6)) = ((1, a12), v12) := by
                rw [e3]
                exact hw12n
              have eS : tS (A 18) (F 5) (0, F 6) = (1, a12) := by
                unfold tS
                rw [if_pos ⟨rfl, by (try dsimp only); omega⟩, e4]
              exact eS
          · refine R_s (P := True) (f' := (45, [some (vR 17), some (vR 20), some (vI x), some (vI (nx (A 18) (F 5) (a11)))], [vI 60, vI (nx (A 18) (F 5) (a11))], LAY (u (u (u A 27 (A 27)) 28 (A 28)) 26 (wr (A 26) x 3)) (u (u F 7 (F 7)) 6 a11), 0, 0)) hc44 2 rfl trivial ?_
            refine R_ic (t := 56) hc44 rfl rfl (fun (c13 : nx (A 18) (F 5) (a11) = 60) => ?_) (fun (c13 : ¬ (nx (A 18) (F 5) (a11) = 60)) => ?_)
            · refine R_s (P := (0 ≤ x ∧ x < ((A 27).length : Int)) ∧ inI (a11 + 1) ∧ True) (f' := (75, [some (vR 17), some (vR 20), some (vI x), some (vI (nx (A 18) (F 5) (a11)))], [vI 4, vR 17], LAY (u (u (u A 28 (A 28)) 26 (wr (A 26) x 3)) 27 (wr (A 27) x (nx (A 18) (F 5) (a11)))) (u (u F 7 (F 7)) 6 (a11 + 1)), 0, 0)) hc44 13 rfl ⟨⟨by omega, by omega⟩, ⟨by omega, by omega⟩, trivial⟩ ?_
              refine R_cv hc44 rfl rfl (l_numb (A := (u (u (u A 28 (A 28)) 26 (wr (A 26) x 3)) 27 (wr (A 27) x (nx (A 18) (F 5) (a11))))) (F := (u (u F 7 (F 7)) 6 (a11 + 1))) (LENS_u (LENS_u (LENS_u hL (by show (A 28).length = (A 28).length; omega)) (by show (wr (A 26) x 3).length = (A 26).length; simp only [wr_len])) (by show (wr (A 27) x (nx (A 18) (F 5) (a11))).length = (A 27).length; simp only [wr_len])) h5 ⟨by (show 0 ≤ a11 + 1); omega, by (have := nx_in (l := A 18) (n := F 5) (a := a11) (by omega)); (show a11 + 1 ≤ F 5); omega⟩ (kk := 4) (by decide) rfl) (fun r G9 hp9 => ?_)
              obtain ⟨b13, a13, v13, rfl, rfl, hb13, hw13, p13, q13, w13⟩ := hp9
              have p13 : 0 ≤ a13 := p13
              have q13 : a13 ≤ F 5 := q13
              refine R_s (f' := (78, [some (vR 17), some (vR 20), some (vI x), some (vI (nx (A 18) (F 5) (a11)))], [vI b13], LAY (u (u (u A 28 (A 28)) 26 (wr (A 26) x 3)) 27 (wr (A 27) x (nx (A 18) (F 5) (a11)))) (u (u F 6 a13) 7 v13), 0, 0)) hc44 0 rfl trivial ?_
              refine R_if (t := 83) hc44 rfl rfl (fun (c14 : ¬ b13 = 0) => ?_) (fun (c14 : ¬ (¬ b13 = 0)) => ?_)
              · refine R_s (P := (0 ≤ x ∧ x < ((A 28).length : Int)) ∧ True) (f' := (94, [some (vR 17), some (vR 20), some (vI x), some (vI (nx (A 18) (F 5) (a11)))], [vI 1], LAY (u (u (u A 26 (wr (A 26) x 3)) 27 (wr (A 27) x (nx (A 18) (F 5) (a11)))) 28 (wr (A 28) x v13)) (u (u F 6 a13) 7 v13), 0, 0)) hc44 7 rfl ⟨⟨by omega, by omega⟩, trivial⟩ ?_
                refine R_retz hc44 rfl rfl (Or.inr rfl) ⟨1, wr (A 26) x 3, wr (A 27) x (nx (A 18) (F 5) (a11)), wr (A 28) x v13, a13, v13, rfl, rfl, (by (try simp only [wr_len]); omega), (by (try simp only [wr_len]); omega), (by (try simp only [wr_len]); omega), by decide, by omega, by first | omega | (have := nx_in (l := A 18) (n := F 5) (a := F 6) (by omega); omega), fun q hq => by rw [rd_wr_n (by omega) (by omega) (by omega)], fun q hq => by rw [rd_wr_n (by omega) (by omega) (by omega)], fun q hq => by rw [rd_wr_n (by omega) (by omega) (by omega)], ?_⟩
                have ehw1 : b1 = 1 := by omega
                rw [ehw1] at hw1
                have hw1n : wD (A 18) (F 5) IFF (0, F 6) = (0, a1) := hw1
                have ehw11 : b11 = 1 := by omega
                rw [ehw11] at hw11
                have hw11n : wD (A 18) (F 5) ALIVE (0, a1) = (0, a11) := hw11
                have ehw13 : b13 = 1 := by omega
                rw [ehw13] at hw13
                have hw13n : dG (A 18) (F 5) 4 (0, a11 + 1) = ((0, a13), v13) := hw13
                have e2 : t2 (A 18) (F 5) (0, F 6) = ((0, a11), 2) := by
                  unfold t2
                  rw [hw1n]
                  rw [if_pos rfl]
                  unfold fD
                  (try dsimp only)
                  rw [if_pos (by omega), hw11n]
                have e3 : t3 (A 18) (F 5) (0, F 6) = (0, a11 + 1) := by
                  unfold t3
                  rw [e2]
                  rw [if_pos ⟨rfl, by (try dsimp only); omega⟩]
                have e4 : dG (A 18) (F 5) 4 (t3 (A 18) (F 5) (0, F 6)) = ((0, a13), v13) := by
                  rw [e3]
                  exact hw13n
                have eS : tS (A 18) (F 5) (0, F 6) = (0, a13) := by
                  unfold tS
                  rw [if_pos ⟨rfl, by (try dsimp only); omega⟩, e4]
                have eF : tF (A 18) (F 5) (0, F 6) = 2 := by
                  unfold tF
                  rw [if_pos ⟨rfl, by (try dsimp only); omega⟩, e2]
                have eG : tG (A 18) (F 5) (0, F 6) = nx (A 18) (F 5) (a11) := by
                  unfold tG
                  rw [e2]
                have eH : tH (A 18) (F 5) (0, F 6) = v13 := by
                  unfold tH
                  rw [e4]
                refine ⟨eS, fun _ => ⟨?_, .inr ⟨?_, ?_⟩⟩⟩
                · rw [eF, ← ex, rd_wr_s (by omega) (by (try simp only [wr_len]); omega)]
                  decide
                · rw [eG, ← ex, rd_wr_s (by omega) (by (try simp only [wr_len]); omega)]
                · rw [eH, ← ex, rd_wr_s (by omega) (by (try simp only [wr_len]); omega)]
              · refine R_s (P := True) (f' := (82, [some (vR 17), some (vR 20), some (vI x), some (vI (nx (A 18) (F 5) (a11)))], [vI 0], LAY (u (u (u A 28 (A 28)) 26 (wr (A 26) x 3)) 27 (wr (A 27) x (nx (A 18) (F 5) (a11)))) (u (u F 6 a13) 7 v13), 0, 0)) hc44 1 rfl trivial ?_
                refine R_retz hc44 rfl rfl (Or.inl rfl) ⟨0, wr (A 26) x 3, wr (A 27) x (nx (A 18) (F 5) (a11)), A 28, a13, v13, rfl, rfl, (by (try simp only [wr_len]); omega), (by (try simp only [wr_len]); omega), (by (try simp only [wr_len]); omega), by decide, by omega, by first | omega | (have := nx_in (l := A 18) (n := F 5) (a := F 6) (by omega); omega), fun q hq => by rw [rd_wr_n (by omega) (by omega) (by omega)], fun q hq => by rw [rd_wr_n (by omega) (by omega) (by omega)], fun _ _ => rfl, ?_, fun z => absurd z (by decide)⟩
                have ehw1 : b1 = 1 := by omega
                rw [ehw1] at hw1
                have hw1n : wD (A 18) (F 5) IFF (0, F 6) = (0, a1) := hw1
                have ehw11 : b11 = 1 := by omega
                rw [ehw11] at hw11
                have hw11n : wD (A 18) (F 5) ALIVE (0, a1) = (0, a11) := hw11
                have ehw13 : b13 = 0 := by omega
                rw [ehw13] at hw13
                have hw13n : dG (A 18) (F 5) 4 (0, a11 + 1) = ((1, a13), v13) := hw13
                have e2 : t2 (A 18) (F 5) (0, F 6) = ((0, a11), 2) := by
                  unfold t2
                  rw [hw1n]
                  rw [if_pos rfl]
                  unfold fD
                  (try dsimp only)
                  rw [if_pos (by omega), hw11n]
                have e3 : t3 (A 18) (F 5) (0, F 6) = (0, a11 + 1) := by
                  unfold t3
                  rw [e2]
                  rw [if_pos ⟨rfl, by (try dsimp only); omega⟩]
                have e4 : dG (A 18) (F 5) 4 (t3 (A 18) (F 5) (0, F 6)) = ((1, a13), v13) := by
                  rw [e3]
                  exact hw13n
                have eS : tS (A 18) (F 5) (0, F 6) = (1, a13) := by
                  unfold tS
                  rw [if_pos ⟨rfl, by (try dsimp only); omega⟩, e4]
                exact eS
            · refine R_s (P := True) (f' := (51, [some (vR 17), some (vR 20), some (vI x), some (vI (nx (A 18) (F 5) (a11)))], [vI 62, vI (nx (A 18) (F 5) (a11))], LAY (u (u (u A 27 (A 27)) 28 (A 28)) 26 (wr (A 26) x 3)) (u (u F 7 (F 7)) 6 a11), 0, 0)) hc44 2 rfl trivial ?_
              refine R_ic (t := 56) hc44 rfl rfl (fun (c15 : nx (A 18) (F 5) (a11) = 62) => ?_) (fun (c15 : ¬ (nx (A 18) (F 5) (a11) = 62)) => ?_)
              · refine R_s (P := (0 ≤ x ∧ x < ((A 27).length : Int)) ∧ inI (a11 + 1) ∧ True) (f' := (75, [some (vR 17), some (vR 20), some (vI x), some (vI (nx (A 18) (F 5) (a11)))], [vI 4, vR 17], LAY (u (u (u A 28 (A 28)) 26 (wr (A 26) x 3)) 27 (wr (A 27) x (nx (A 18) (F 5) (a11)))) (u (u F 7 (F 7)) 6 (a11 + 1)), 0, 0)) hc44 13 rfl ⟨⟨by omega, by omega⟩, ⟨by omega, by omega⟩, trivial⟩ ?_
                refine R_cv hc44 rfl rfl (l_numb (A := (u (u (u A 28 (A 28)) 26 (wr (A 26) x 3)) 27 (wr (A 27) x (nx (A 18) (F 5) (a11))))) (F := (u (u F 7 (F 7)) 6 (a11 + 1))) (LENS_u (LENS_u (LENS_u hL (by show (A 28).length = (A 28).length; omega)) (by show (wr (A 26) x 3).length = (A 26).length; simp only [wr_len])) (by show (wr (A 27) x (nx (A 18) (F 5) (a11))).length = (A 27).length; simp only [wr_len])) h5 ⟨by (show 0 ≤ a11 + 1); omega, by (have := nx_in (l := A 18) (n := F 5) (a := a11) (by omega)); (show a11 + 1 ≤ F 5); omega⟩ (kk := 4) (by decide) rfl) (fun r G9 hp9 => ?_)
                obtain ⟨b14, a14, v14, rfl, rfl, hb14, hw14, p14, q14, w14⟩ := hp9
                have p14 : 0 ≤ a14 := p14
                have q14 : a14 ≤ F 5 := q14
                refine R_s (f' := (78, [some (vR 17), some (vR 20), some (vI x), some (vI (nx (A 18) (F 5) (a11)))], [vI b14], LAY (u (u (u A 28 (A 28)) 26 (wr (A 26) x 3)) 27 (wr (A 27) x (nx (A 18) (F 5) (a11)))) (u (u F 6 a14) 7 v14), 0, 0)) hc44 0 rfl trivial ?_
                refine R_if (t := 83) hc44 rfl rfl (fun (c16 : ¬ b14 = 0) => ?_) (fun (c16 : ¬ (¬ b14 = 0)) => ?_)
                · refine R_s (P := (0 ≤ x ∧ x < ((A 28).length : Int)) ∧ True) (f' := (94, [some (vR 17), some (vR 20), some (vI x), some (vI (nx (A 18) (F 5) (a11)))], [vI 1], LAY (u (u (u A 26 (wr (A 26) x 3)) 27 (wr (A 27) x (nx (A 18) (F 5) (a11)))) 28 (wr (A 28) x v14)) (u (u F 6 a14) 7 v14), 0, 0)) hc44 7 rfl ⟨⟨by omega, by omega⟩, trivial⟩ ?_
                  refine R_retz hc44 rfl rfl (Or.inr rfl) ⟨1, wr (A 26) x 3, wr (A 27) x (nx (A 18) (F 5) (a11)), wr (A 28) x v14, a14, v14, rfl, rfl, (by (try simp only [wr_len]); omega), (by (try simp only [wr_len]); omega), (by (try simp only [wr_len]); omega), by decide, by omega, by first | omega | (have := nx_in (l := A 18) (n := F 5) (a := F 6) (by omega); omega), fun q hq => by rw [rd_wr_n (by omega) (by omega) (by omega)], fun q hq => by rw [rd_wr_n (by omega) (by omega) (by omega)], fun q hq => by rw [rd_wr_n (by omega) (by omega) (by omega)], ?_⟩
                  have ehw1 : b1 = 1 := by omega
                  rw [ehw1] at hw1
                  have hw1n : wD (A 18) (F 5) IFF (0, F 6) = (0, a1) := hw1
                  have ehw11 : b11 = 1 := by omega
                  rw [ehw11] at hw11
                  have hw11n : wD (A 18) (F 5) ALIVE (0, a1) = (0, a11) := hw11
                  have ehw14 : b14 = 1 := by omega
                  rw [ehw14] at hw14
                  have hw14n : dG (A 18) (F 5) 4 (0, a11 + 1) = ((0, a14), v14) := hw14
                  have e2 : t2 (A 18) (F 5) (0, F 6) = ((0, a11), 2) := by
                    unfold t2
                    rw [hw1n]
                    rw [if_pos rfl]
                    unfold fD
                    (try dsimp only)
                    rw [if_pos (by omega), hw11n]
                  have e3 : t3 (A 18) (F 5) (0, F 6) = (0, a11 + 1) := by
                    unfold t3
                    rw [e2]
                    rw [if_pos ⟨rfl, by (try dsimp only); omega⟩]
                  have e4 : dG (A 18) (F 5) 4 (t3 (A 18) (F 5) (0, F 6)) = ((0, a14), v14) := by
                    rw [e3]
                    exact hw14n
                  have eS : tS (A 18) (F 5) (0, F 6) = (0, a14) := by
                    unfold tS
                    rw [if_pos ⟨rfl, by (try dsimp only); omega⟩, e4]
                  have eF : tF (A 18) (F 5) (0, F 6) = 2 := by
                    unfold tF
                    rw [if_pos ⟨rfl, by (try dsimp only); omega⟩, e2]
                  have eG : tG (A 18) (F 5) (0, F 6) = nx (A 18) (F 5) (a11) := by
                    unfold tG
                    rw [e2]
                  have eH : tH (A 18) (F 5) (0, F 6) = v14 := by
                    unfold tH
                    rw [e4]
                  refine ⟨eS, fun _ => ⟨?_, .inr ⟨?_, ?_⟩⟩⟩
                  · rw [eF, ← ex, rd_wr_s (by omega) (by (try simp only [wr_len]); omega)]
                    decide
                  · rw [eG, ← ex, rd_wr_s (by omega) (by (try simp only [wr_len]); omega)]
                  · rw [eH, ← ex, rd_wr_s (by omega) (by (try simp only [wr_len]); omega)]
                · refine R_s (P := True) (f' := (82, [some (vR 17), some (vR 20), some (vI x), some (vI (nx (A 18) (F 5) (a11)))], [vI 0], LAY (u (u (u A 28 (A 28)) 26 (wr (A 26) x 3)) 27 (wr (A 27) x (nx (A 18) (F 5) (a11)))) (u (u F 6 a14) 7 v14), 0, 0)) hc44 1 rfl trivial ?_
                  refine R_retz hc44 rfl rfl (Or.inl rfl) ⟨0, wr (A 26) x 3, wr (A 27) x (nx (A 18) (F 5) (a11)), A 28, a14, v14, rfl, rfl, (by (try simp only [wr_len]); omega), (by (try simp only [wr_len]); omega), (by (try simp only [wr_len]); omega), by decide, by omega, by first | omega | (have := nx_in (l := A 18) (n := F 5) (a := F 6) (by omega); omega), fun q hq => by rw [rd_wr_n (by omega) (by omega) (by omega)], fun q hq => by rw [rd_wr_n (by omega) (by omega) (by omega)], fun _ _ => rfl, ?_, fun z => absurd z (by decide)⟩
                  have ehw1 : b1 = 1 := by omega
                  rw [ehw1] at hw1
                  have hw1n : wD (A 18) (F 5) IFF (0, F 6) = (0, a1) := hw1
                  have ehw11 : b11 = 1 := by omega
                  rw [ehw11] at hw11
                  have hw11n : wD (A 18) (F 5) ALIVE (0, a1) = (0, a11) := hw11
                  have ehw14 : b14 = 0 := by omega
                  rw [ehw14] at hw14
                  have hw14n : dG (A 18) (F 5) 4 (0, a11 + 1) = ((1, a14), v14) := hw14
                  have e2 : t2 (A 18) (F 5) (0, F 6) = ((0, a11), 2) := by
                    unfold t2
                    rw [hw1n]
                    rw [if_pos rfl]
                    unfold fD
                    (try dsimp only)
                    rw [if_pos (by omega), hw11n]
                  have e3 : t3 (A 18) (F 5) (0, F 6) = (0, a11 + 1) := by
                    unfold t3
                    rw [e2]
                    rw [if_pos ⟨rfl, by (try dsimp only); omega⟩]
                  have e4 : dG (A 18) (F 5) 4 (t3 (A 18) (F 5) (0, F 6)) = ((1, a14), v14) := by
                    rw [e3]
                    exact hw14n
                  have eS : tS (A 18) (F 5) (0, F 6) = (1, a14) := by
                    unfold tS
                    rw [if_pos ⟨rfl, by (try dsimp only); omega⟩, e4]
                  exact eS
              · refine R_s (P := True) (f' := (55, [some (vR 17), some (vR 20), some (vI x), some (vI (nx (A 18) (F 5) (a11)))], [vI 0], LAY (u (u (u A 27 (A 27)) 28 (A 28)) 26 (wr (A 26) x 3)) (u (u F 7 (F 7)) 6 a11), 0, 0)) hc44 1 rfl trivial ?_
                refine R_retz hc44 rfl rfl (Or.inl rfl) ⟨0, wr (A 26) x 3, A 27, A 28, a11, F 7, rfl, rfl, (by (try simp only [wr_len]); omega), (by (try simp only [wr_len]); omega), (by (try simp only [wr_len]); omega), by decide, by omega, by first | omega | (have := nx_in (l := A 18) (n := F 5) (a := F 6) (by omega); omega), fun q hq => by rw [rd_wr_n (by omega) (by omega) (by omega)], fun _ _ => rfl, fun _ _ => rfl, ?_, fun z => absurd z (by decide)⟩
                have ehw1 : b1 = 1 := by omega
                rw [ehw1] at hw1
                have hw1n : wD (A 18) (F 5) IFF (0, F 6) = (0, a1) := hw1
                have ehw11 : b11 = 1 := by omega
                rw [ehw11] at hw11
                have hw11n : wD (A 18) (F 5) ALIVE (0, a1) = (0, a11) := hw11
                have e2 : t2 (A 18) (F 5) (0, F 6) = ((0, a11), 2) := by
                  unfold t2
                  rw [hw1n]
                  rw [if_pos rfl]
                  unfold fD
                  (try dsimp only)
                  rw [if_pos (by omega), hw11n]
                have e3 : t3 (A 18) (F 5) (0, F 6) = (1, a11) := by
                  unfold t3
                  rw [e2]
                  rw [if_neg (fun z => by have := z.2; (try dsimp only at this); omega)]
                have e4 : dG (A 18) (F 5) 4 (t3 (A 18) (F 5) (0, F 6)) = ((1, a11), 0) := by rw [e3, dG_f]
                have eS : tS (A 18) (F 5) (0, F 6) = (1, a11) := by
                  unfold tS
                  rw [if_pos ⟨rfl, by (try dsimp only); omega⟩, e4]
                exact eS
        · refine R_s (P := True) (f' := (30, [some (vR 17), some (vR 20), some (vI x), none], [vI 0], LAY (u (u (u A 27 (A 27)) 28 (A 28)) 26 (wr (A 26) x 3)) (u (u F 7 (F 7)) 6 a11), 0, 0)) hc44 1 rfl trivial ?_
          refine R_retz hc44 rfl rfl (Or.inl rfl) ⟨0, wr (A 26) x 3, A 27, A 28, a11, F 7, rfl, rfl, (by (try simp only [wr_len]); omega), (by (try simp only [wr_len]); omega), (by (try simp only [wr_len]); omega), by decide, by omega, by first | omega | (have := nx_in (l := A 18) (n := F 5) (a := F 6) (by omega); omega), fun q hq => by rw [rd_wr_n (by omega) (by omega) (by omega)], fun _ _ => rfl, fun _ _ => rfl, ?_, fun z => absurd z (by decide)⟩
          have ehw1 : b1 = 1 := by omega
          rw [ehw1] at hw1
          have hw1n : wD (A 18) (F 5) IFF (0, F 6) = (0, a1) := hw1
          have ehw11 : b11 = 0 := by omega
          rw [ehw11] at hw11
          have hw11n : wD (A 18) (F 5) ALIVE (0, a1) = (1, a11) := hw11
          have e2 : t2 (A 18) (F 5) (0, F 6) = ((1, a11), 2) := by
            unfold t2
            rw [hw1n]
            rw [if_pos rfl]
            unfold fD
            (try dsimp only)
            rw [if_pos (by omega), hw11n]
          have e3 : t3 (A 18) (F 5) (0, F 6) = (1, a11) := by
            unfold t3
            rw [e2]
            rw [if_neg (fun z => absurd (show (1 : Int) = 0 from z.1) (by decide))]
          have e4 : dG (A 18) (F 5) 4 (t3 (A 18) (F 5) (0, F 6)) = ((1, a11), 0) := by rw [e3, dG_f]
          have eS : tS (A 18) (F 5) (0, F 6) = (1, a11) := by
            unfold tS
            rw [if_pos ⟨rfl, by (try dsimp only); omega⟩, e4]
          exact eS
  · refine R_s (P := True) (f' := (10, [some (vR 17), some (vR 20), some (vI x), none], [vI 1], LAY (u (u (u A 26 (A 26)) 27 (A 27)) 28 (A 28)) (u (u F 6 (F 6)) 7 (F 7)), 0, 0)) hc44 1 rfl trivial ?_
    refine R_retz hc44 rfl rfl (Or.inr rfl) ⟨1, A 26, A 27, A 28, F 6, F 7, rfl, rfl, (by (try simp only [wr_len]); omega), (by (try simp only [wr_len]); omega), (by (try simp only [wr_len]); omega), by decide, by omega, by first | omega | (have := nx_in (l := A 18) (n := F 5) (a := F 6) (by omega); omega), fun _ _ => rfl, fun _ _ => rfl, fun _ _ => rfl, ?_, fun _ => ⟨?_, .inl ?_⟩⟩
    · unfold tS
      rw [if_neg (fun z => by have := z.2; (try dsimp only at this); omega)]
      rfl
    all_goals have e9 : tF (A 18) (F 5) (0, F 6) = -1 := by (unfold tF; rw [if_neg (fun z => by have := z.2; (try dsimp only at this); omega)])
    · rw [e9]; omega
    · exact e9
theorem l_rrest0 {A : Nat → List Int} {F : Nat → Int} (hL : LENS A) (h5 : 0 ≤ F 5 ∧ F 5 ≤ 120) (h6 : 0 ≤ F 6 ∧ F 6 ≤ F 5) {x : Int} {i : Nat} (ex : x = (i : Int)) (hi : i < 6) : R 43 (0, L0 43 [vR 17, vR 20, vI x], [], LAY A F, 0, 0) (fun r G => ∃ (c : Int) (q0 q3 : List Int) (a v : Int), r = some (vI c) ∧ G = LAY (u (u A 21 q0) 24 q3) (u (u F 6 a) 7 v) ∧ q0.length = 6 ∧ q3.length = 6 ∧ (c = 0 ∨ c = 1) ∧ 0 ≤ a ∧ a ≤ F 5 ∧ (∀ q : Nat, q ≠ i → rd q0 q = rd (A 21) q) ∧ (∀ q : Nat, q ≠ i → rd q3 q = rd (A 24) q) ∧ (hS (A 18) (F 5) (wD (A 18) (F 5) REST (0, F 6))).1 = (1 - c, a) ∧ rd q0 i = 3 ∧ (c = 1 → rd q3 i = (hS (A 18) (F 5) (wD (A 18) (F 5) REST (0, F 6))).2)) := by
  have d0 : (A 21).length = 6 := hL 21 (by decide)
  have d1 : (A 22).length = 6 := hL 22 (by decide)
  have d2 : (A 23).length = 6 := hL 23 (by decide)
  have d3 : (A 24).length = 6 := hL 24 (by decide)
  have d4 : (A 25).length = 6 := hL 25 (by decide)
  have d5 : (A 26).length = 6 := hL 26 (by decide)
  have d6 : (A 27).length = 6 := hL 27 (by decide)
  have d7 : (A 28).length = 6 := hL 28 (by decide)
  refine R_s (P := True) (f' := (0, [some (vR 17), some (vR 20), some (vI x)], [], LAY (u (u A 21 (A 21)) 24 (A 24)) (u (u F 6 (F 6)) 7 (F 7)), 0, 0)) hc43 0 rfl trivial ?_
  refine R_s (P := (0 ≤ x ∧ x < ((A 21).length : Int)) ∧ True) (f' := (10, [some (vR 17), some (vR 20), some (vI x)], [vS 12, vR 17], LAY (u (u A 24 (A 24)) 21 (wr (A 21) x 3)) (u (u F 6 (F 6)) 7 (F 7)), 0, 0)) hc43 7 rfl ⟨⟨by omega, by omega⟩, trivial⟩ ?_
  refine R_cv hc43 rfl rfl (l_word12 (A := (u (u A 24 (A 24)) 21 (wr (A 21) x 3))) (F := (u (u F 6 (F 6)) 7 (F 7))) (LENS_u (LENS_u hL (by show (A 24).length = (A 24).length; omega)) (by show (wr (A 21) x 3).length = (A 21).length; simp only [wr_len])) h5 ⟨by (show 0 ≤ F 6); omega, by (show F 6 ≤ F 5); omega⟩) (fun r G9 hp9 => ?_)
  obtain ⟨b15, a15, rfl, rfl, hb15, hw15, p15, q15⟩ := hp9
  have p15 : 0 ≤ a15 := p15
  have q15 : a15 ≤ F 5 := q15
  refine R_s (f' := (13, [some (vR 17), some (vR 20), some (vI x)], [vI b15], LAY (u (u A 24 (A 24)) 21 (wr (A 21) x 3)) (u (u F 7 (F 7)) 6 a15), 0, 0)) hc43 0 rfl trivial ?_
  refine R_if (t := 29) hc43 rfl rfl (fun (c1 : b15 = 0) => ?_) (fun (c1 : ¬ (b15 = 0)) => ?_)
  · refine R_s (P := True) (f' := (30, [some (vR 17), some (vR 20), some (vI x)], [vI 0], LAY (u (u A 24 (A 24)) 21 (wr (A 21) x 3)) (u (u F 7 (F 7)) 6 a15), 0, 0)) hc43 1 rfl trivial ?_
    refine R_retz hc43 rfl rfl (Or.inl rfl) ⟨0, wr (A 21) x 3, A 24, a15, F 7, rfl, rfl, (by (try simp only [wr_len]); omega), (by (try simp only [wr_len]); omega), by decide, by omega, by omega, fun q hq => by rw [rd_wr_n (by omega) (by omega) (by omega)], fun _ _ => rfl, ?_⟩
    have ehw15 : b15 = 0 := by omega
    rw [ehw15] at hw15
    have hw15n : wD (A 18) (F 5) REST (0, F 6) = (1, a15) := hw15
    have eS : hS (A 18) (F 5) (wD (A 18) (F 5) REST (0, F 6)) = ((1, a15), 0) := by rw [hw15n, hS_f]
    exact ⟨by rw [eS]; rfl, by rw [← ex]; exact rd_wr_s (by omega) (by omega), fun z => absurd z (by decide)⟩
  · refine R_s (P := True) (f' := (19, [some (vR 17), some (vR 20), some (vI x)], [vI x, vR 20, vR 17], LAY (u (u A 24 (A 24)) 21 (wr (A 21) x 3)) (u (u F 7 (F 7)) 6 a15), 0, 0)) hc43 3 rfl trivial ?_
    refine R_cv hc43 rfl rfl (l_rhouse0 (A := (u (u A 24 (A 24)) 21 (wr (A 21) x 3))) (F := (u (u F 7 (F 7)) 6 a15)) (LENS_u (LENS_u hL (by show (A 24).length = (A 24).length; omega)) (by show (wr (A 21) x 3).length = (A 21).length; simp only [wr_len])) h5 ⟨by (show 0 ≤ a15); omega, by (show a15 ≤ F 5); omega⟩ ex hi) (fun r G9 hp9 => ?_)
    obtain ⟨b16, h3_16, a16, v16, rfl, rfl, l16, hb16, p16, q16, kp16, h16, hw16, hv16⟩ := hp9
    have q16 : a16 ≤ F 5 := q16
    have kp16 : ∀ q : Nat, q ≠ i → rd h3_16 q = rd (A 24) q := kp16
    refine R_s (f' := (22, [some (vR 17), some (vR 20), some (vI x)], [vI b16], LAY (u (u A 21 (wr (A 21) x 3)) 24 h3_16) (u (u F 6 a16) 7 v16), 0, 0)) hc43 0 rfl trivial ?_
    refine R_if (t := 29) hc43 rfl rfl (fun (c2 : b16 = 0) => ?_) (fun (c2 : ¬ (b16 = 0)) => ?_)
    · refine R_s (P := True) (f' := (30, [some (vR 17), some (vR 20), some (vI x)], [vI 0], LAY (u (u A 21 (wr (A 21) x 3)) 24 h3_16) (u (u F 6 a16) 7 v16), 0, 0)) hc43 1 rfl trivial ?_
      refine R_retz hc43 rfl rfl (Or.inl rfl) ⟨0, wr (A 21) x 3, h3_16, a16, v16, rfl, rfl, (by (try simp only [wr_len]); omega), (by (try simp only [wr_len]); omega), by decide, by omega, by omega, fun q hq => by rw [rd_wr_n (by omega) (by omega) (by omega)], fun q hq => by rw [kp16 q hq], ?_⟩
      have ehw15 : b15 = 1 := by omega
      rw [ehw15] at hw15
      have hw15n : wD (A 18) (F 5) REST (0, F 6) = (0, a15) := hw15
      have ehw16 : b16 = 0 := by omega
      rw [ehw16] at hw16
      have hw16n : hS (A 18) (F 5) (0, a15) = ((1, a16), h16) := hw16
      have eS : hS (A 18) (F 5) (wD (A 18) (F 5) REST (0, F 6)) = ((1, a16), h16) := by rw [hw15n, hw16n]
      exact ⟨by rw [eS]; rfl, by rw [← ex]; exact rd_wr_s (by omega) (by omega), fun z => absurd z (by decide)⟩
    · refine R_s (P := True) (f' := (30, [some (vR 17), some (vR 20), some (vI x)], [vI 1], LAY (u (u A 21 (wr (A 21) x 3)) 24 h3_16) (u (u F 6 a16) 7 v16), 0, 0)) hc43 2 rfl trivial ?_
      refine R_retz hc43 rfl rfl (Or.inr rfl) ⟨1, wr (A 21) x 3, h3_16, a16, v16, rfl, rfl, (by (try simp only [wr_len]); omega), (by (try simp only [wr_len]); omega), by decide, by omega, by omega, fun q hq => by rw [rd_wr_n (by omega) (by omega) (by omega)], fun q hq => by rw [kp16 q hq], ?_⟩
      have ehw15 : b15 = 1 := by omega
      rw [ehw15] at hw15
      have hw15n : wD (A 18) (F 5) REST (0, F 6) = (0, a15) := hw15
      have ehw16 : b16 = 1 := by omega
      rw [ehw16] at hw16
      have hw16n : hS (A 18) (F 5) (0, a15) = ((0, a16), h16) := hw16
      have eS : hS (A 18) (F 5) (wD (A 18) (F 5) REST (0, F 6)) = ((0, a16), h16) := by rw [hw15n, hw16n]
      exact ⟨by rw [eS]; rfl, by rw [← ex]; exact rd_wr_s (by omega) (by omega), fun _ => by rw [eS]; exact hv16 (by omega)⟩
theorem l_rhouse1 {A : Nat → List Int} {F : Nat → Int} (hL : LENS A) (h5 : 0 ≤ F 5 ∧ F 5 ≤ 120) (h6 : 0 ≤ F 6 ∧ F 6 ≤ F 5) {x : Int} {i : Nat} (ex : x = (i : Int)) (hi : i < 6) : R 46 (0, L0 46 [vR 17, vR 29, vI x], [], LAY A F, 0, 0) (fun r G => ∃ (c : Int) (q3 : List Int) (a v : Int), r = some (vI c) ∧ G = LAY (u A 33 q3) (u (u F 6 a) 7 v) ∧ q3.length = 6 ∧ (c = 0 ∨ c = 1) ∧ 0 ≤ a ∧ a ≤ F 5 ∧ (∀ q : Nat, q ≠ i → rd q3 q = rd (A 33) q) ∧ ∃ h, hS (A 18) (F 5) (0, F 6) = ((1 - c, a), h) ∧ (c = 1 → rd q3 i = h)) := by
  have d0 : (A 30).length = 6 := hL 30 (by decide)
  have d1 : (A 31).length = 6 := hL 31 (by decide)
  have d2 : (A 32).length = 6 := hL 32 (by decide)
  have d3 : (A 33).length = 6 := hL 33 (by decide)
  have d4 : (A 34).length = 6 := hL 34 (by decide)
  have d5 : (A 35).length = 6 := hL 35 (by decide)
  have d6 : (A 36).length = 6 := hL 36 (by decide)
  have d7 : (A 37).length = 6 := hL 37 (by decide)
  refine R_s (P := True) (f' := (0, [some (vR 17), some (vR 29), some (vI x), none], [], LAY (u A 33 (A 33)) (u (u F 6 (F 6)) 7 (F 7)), 0, 0)) hc46 0 rfl trivial ?_
  refine R_s (P := True) (f' := (1, [some (vR 17), some (vR 29), some (vI x), none], [vR 17], LAY (u A 33 (A 33)) (u (u F 6 (F 6)) 7 (F 7)), 0, 0)) hc46 1 rfl trivial ?_
  refine R_cv hc46 rfl rfl (l_next (A := (u A 33 (A 33))) (F := (u (u F 6 (F 6)) 7 (F 7))) (LENS_u hL (by show (A 33).length = (A 33).length; omega)) h5 ⟨by (show 0 ≤ F 6); omega, by (show F 6 ≤ F 5); omega⟩) (fun r G9 hp9 => ?_)
  obtain ⟨e1, rfl⟩ := hp9
  have e2 : r = some (vI (nx (A 18) (F 5) (F 6))) := e1
  clear e1
  subst e2
  refine R_s (f' := (4, [some (vR 17), some (vR 29), some (vI x), none], [vI (nx (A 18) (F 5) (F 6))], LAY (u A 33 (A 33)) (u (u F 6 (F 6)) 7 (F 7)), 0, 0)) hc46 0 rfl trivial ?_
  refine R_s (P := True) (f' := (8, [some (vR 17), some (vR 29), some (vI x), some (vI (nx (A 18) (F 5) (F 6)))], [vI 97, vI (nx (A 18) (F 5) (F 6))], LAY (u A 33 (A 33)) (u (u F 6 (F 6)) 7 (F 7)), 0, 0)) hc46 3 rfl trivial ?_
  refine R_ic (t := 17) hc46 rfl rfl (fun (c1 : nx (A 18) (F 5) (F 6) < 97) => ?_) (fun (c1 : ¬ (nx (A 18) (F 5) (F 6) < 97)) => ?_)
  · refine R_s (P := True) (f' := (18, [some (vR 17), some (vR 29), some (vI x), some (vI (nx (A 18) (F 5) (F 6)))], [vI 0], LAY (u A 33 (A 33)) (u (u F 6 (F 6)) 7 (F 7)), 0, 0)) hc46 1 rfl trivial ?_
    refine R_retz hc46 rfl rfl (Or.inl rfl) ⟨0, A 33, F 6, F 7, rfl, rfl, (by (try simp only [wr_len]); omega), by decide, by omega, by omega, fun _ _ => rfl, 0, ?_, fun z => absurd z (by decide)⟩
    unfold hS
    (try dsimp only)
    rw [if_neg (fun z => by omega)]
    rfl
  · refine R_s (P := True) (f' := (14, [some (vR 17), some (vR 29), some (vI x), some (vI (nx (A 18) (F 5) (F 6)))], [vI 105, vI (nx (A 18) (F 5) (F 6))], LAY (u A 33 (A 33)) (u (u F 6 (F 6)) 7 (F 7)), 0, 0)) hc46 2 rfl trivial ?_
    refine R_ic (t := 19) hc46 rfl rfl (fun (c2 : nx (A 18) (F 5) (F 6) < 105) => ?_) (fun (c2 : ¬ (nx (A 18) (F 5) (F 6) < 105)) => ?_)
    · refine R_s (P := inI ((nx (A 18) (F 5) (F 6)) - 97) ∧ (0 ≤ x ∧ x < ((A 33).length : Int)) ∧ inI ((F 6) + 1) ∧ True) (f' := (40, [some (vR 17), some (vR 29), some (vI x), some (vI (nx (A 18) (F 5) (F 6)))], [vI 1], LAY (u A 33 (wr (A 33) x ((nx (A 18) (F 5) (F 6)) - 97))) (u (u F 7 (F 7)) 6 ((F 6) + 1)), 0, 0)) hc46 14 rfl ⟨⟨by omega, by omega⟩, ⟨by omega, by omega⟩, ⟨by omega, by omega⟩, trivial⟩ ?_
      refine R_retz hc46 rfl rfl (Or.inr rfl) ⟨1, wr (A 33) x ((nx (A 18) (F 5) (F 6)) - 97), (F 6) + 1, F 7, rfl, rfl, (by (try simp only [wr_len]); omega), by decide, by omega, by have := nx_in (l := A 18) (n := F 5) (a := F 6) (by omega); omega, fun q hq => by rw [rd_wr_n (by omega) (by omega) (by omega)], nx (A 18) (F 5) (F 6) - 97, ?_, fun _ => by rw [← ex]; exact rd_wr_s (by omega) (by omega)⟩
      unfold hS
      (try dsimp only)
      rw [if_pos ⟨rfl, by omega, by omega⟩]
      rfl
    · refine R_s (P := True) (f' := (18, [some (vR 17), some (vR 29), some (vI x), some (vI (nx (A 18) (F 5) (F 6)))], [vI 0], LAY (u A 33 (A 33)) (u (u F 6 (F 6)) 7 (F 7)), 0, 0)) hc46 1 rfl trivial ?_
      refine R_retz hc46 rfl rfl (Or.inl rfl) ⟨0, A 33, F 6, F 7, rfl, rfl, (by (try simp only [wr_len]); omega), by decide, by omega, by omega, fun _ _ => rfl, 0, ?_, fun z => absurd z (by decide)⟩
      unfold hS
      (try dsimp only)
      rw [if_neg (fun z => by omega)]
      rfl
theorem l_rtest1 {A : Nat → List Int} {F : Nat → Int} (hL : LENS A) (h5 : 0 ≤ F 5 ∧ F 5 ≤ 120) (h6 : 0 ≤ F 6 ∧ F 6 ≤ F 5) {x : Int} {i : Nat} (ex : x = (i : Int)) (hi : i < 6) (hf0 : rd (A 35) i = 0) : R 44 (0, L0 44 [vR 17, vR 29, vI x], [], LAY A F, 0, 0) (fun r G => ∃ (c : Int) (q5 q6 q7 : List Int) (a v : Int), r = some (vI c) ∧ G = LAY (u (u (u A 35 q5) 36 q6) 37 q7) (u (u F 6 a) 7 v) ∧ q5.length = 6 ∧ q6.length = 6 ∧ q7.length = 6 ∧ (c = 0 ∨ c = 1) ∧ 0 ≤ a ∧ a ≤ F 5 ∧ (∀ q : Nat, q ≠ i → rd q5 q = rd (A 35) q) ∧ (∀ q : Nat, q ≠ i → rd q6 q = rd (A 36) q) ∧ (∀ q : Nat, q ≠ i → rd q7 q = rd (A 37) q) ∧ tS (A 18) (F 5) (0, F 6) = (1 - c, a) ∧ (c = 1 → rd q5 i = tF (A 18) (F 5) (0, F 6) + 1 ∧ (tF (A 18) (F 5) (0, F 6) = -1 ∨ (rd q6 i = tG (A 18) (F 5) (0, F 6) ∧ rd q7 i = tH (A 18) (F 5) (0, F 6))))) := by
  have d0 : (A 30).length = 6 := hL 30 (by decide)
  have d1 : (A 31).length = 6 := hL 31 (by decide)
  have d2 : (A 32).length = 6 := hL 32 (by decide)
  have d3 : (A 33).length = 6 := hL 33 (by decide)
  have d4 : (A 34).length = 6 := hL 34 (by decide)
  have d5 : (A 35).length = 6 := hL 35 (by decide)
  have d6 : (A 36).length = 6 := hL 36 (by decide)
  have d7 : (A 37).length = 6 := hL 37 (by decide)
  refine R_s (P := True) (f' := (0, [some (vR 17), some (vR 29), some (vI x), none], [], LAY (u (u (u A 35 (A 35)) 36 (A 36)) 37 (A 37)) (u (u F 6 (F 6)) 7 (F 7)), 0, 0)) hc44 0 rfl trivial ?_
  refine R_s (P := True) (f' := (1, [some (vR 17), some (vR 29), some (vI x), none], [vR 17], LAY (u (u (u A 35 (A 35)) 36 (A 36)) 37 (A 37)) (u (u F 6 (F 6)) 7 (F 7)), 0, 0)) hc44 1 rfl trivial ?_
  refine R_cv hc44 rfl rfl (l_next (A := (u (u (u A 35 (A 35)) 36 (A 36)) 37 (A 37))) (F := (u (u F 6 (F 6)) 7 (F 7))) (LENS_u (LENS_u (LENS_u hL (by show (A 35).length = (A 35).length; omega)) (by show (A 36).length = (A 36).length; omega)) (by show (A 37).length = (A 37).length; omega)) h5 ⟨by (show 0 ≤ F 6); omega, by (show F 6 ≤ F 5); omega⟩) (fun r G9 hp9 => ?_)
  obtain ⟨e1, rfl⟩ := hp9
  have e2 : r = some (vI (nx (A 18) (F 5) (F 6))) := e1
  clear e1
  subst e2
  refine R_s (f' := (4, [some (vR 17), some (vR 29), some (vI x), none], [vI (nx (A 18) (F 5) (F 6))], LAY (u (u (u A 35 (A 35)) 36 (A 36)) 37 (A 37)) (u (u F 6 (F 6)) 7 (F 7)), 0, 0)) hc44 0 rfl trivial ?_
  refine R_s (P := True) (f' := (6, [some (vR 17), some (vR 29), some (vI x), none], [vI 32, vI (nx (A 18) (F 5) (F 6))], LAY (u (u (u A 35 (A 35)) 36 (A 36)) 37 (A 37)) (u (u F 6 (F 6)) 7 (F 7)), 0, 0)) hc44 1 rfl trivial ?_
  refine R_ic (t := 11) hc44 rfl rfl (fun (c1 : nx (A 18) (F 5) (F 6) = 32) => ?_) (fun (c1 : ¬ (nx (A 18) (F 5) (F 6) = 32)) => ?_)
  · refine R_s (P := True) (f' := (14, [some (vR 17), some (vR 29), some (vI x), none], [vS 2, vR 17], LAY (u (u (u A 35 (A 35)) 36 (A 36)) 37 (A 37)) (u (u F 6 (F 6)) 7 (F 7)), 0, 0)) hc44 2 rfl trivial ?_
    refine R_cv hc44 rfl rfl (l_word2 (A := (u (u (u A 35 (A 35)) 36 (A 36)) 37 (A 37))) (F := (u (u F 6 (F 6)) 7 (F 7))) (LENS_u (LENS_u (LENS_u hL (by show (A 35).length = (A 35).length; omega)) (by show (A 36).length = (A 36).length; omega)) (by show (A 37).length = (A 37).length; omega)) h5 ⟨by (show 0 ≤ F 6); omega, by (show F 6 ≤ F 5); omega⟩) (fun r G9 hp9 => ?_)
    obtain ⟨b17, a17, rfl, rfl, hb17, hw17, p17, q17⟩ := hp9
    have p17 : 0 ≤ a17 := p17
    have q17 : a17 ≤ F 5 := q17
    refine R_s (f' := (17, [some (vR 17), some (vR 29), some (vI x), none], [vI b17], LAY (u (u (u A 35 (A 35)) 36 (A 36)) 37 (A 37)) (u (u F 7 (F 7)) 6 a17), 0, 0)) hc44 0 rfl trivial ?_
    refine R_if (t := 29) hc44 rfl rfl (fun (c2 : b17 = 0) => ?_) (fun (c2 : ¬ (b17 = 0)) => ?_)
    · refine R_s (P := True) (f' := (30, [some (vR 17), some (vR 29), some (vI x), none], [vI 0], LAY (u (u (u A 35 (A 35)) 36 (A 36)) 37 (A 37)) (u (u F 7 (F 7)) 6 a17), 0, 0)) hc44 1 rfl trivial ?_
      refine R_retz hc44 rfl rfl (Or.inl rfl) ⟨0, A 35, A 36, A 37, a17, F 7, rfl, rfl, (by (try simp only [wr_len]); omega), (by (try simp only [wr_len]); omega), (by (try simp only [wr_len]); omega), by decide, by omega, by first | omega | (have := nx_in (l := A 18) (n := F 5) (a := F 6) (by omega); omega), fun _ _ => rfl, fun _ _ => rfl, fun _ _ => rfl, ?_, fun z => absurd z (by decide)⟩
      have ehw17 : b17 = 0 := by omega
      rw [ehw17] at hw17
      have hw17n : wD (A 18) (F 5) IFF (0, F 6) = (1, a17) := hw17
      have e2 : t2 (A 18) (F 5) (0, F 6) = ((1, a17), 0) := by
        unfold t2
        rw [hw17n]
        rw [if_neg (show ¬ (1 : Int) = 0 by decide)]
      have e3 : t3 (A 18) (F 5) (0, F 6) = (1, a17) := by
        unfold t3
        rw [e2]
        rw [if_neg (fun z => absurd (show (1 : Int) = 0 from z.1) (by decide))]
      have e4 : dG (A 18) (F 5) 4 (t3 (A 18) (F 5) (0, F 6)) = ((1, a17), 0) := by rw [e3, dG_f]
      have eS : tS (A 18) (F 5) (0, F 6) = (1, a17) := by
        unfold tS
        rw [if_pos ⟨rfl, by (try dsimp only); omega⟩, e4]
      exact eS
    · refine R_s (P := True) (f' := (23, [some (vR 17), some (vR 29), some (vI x), none], [vI x, vR 29, vR 17], LAY (u (u (u A 35 (A 35)) 36 (A 36)) 37 (A 37)) (u (u F 7 (F 7)) 6 a17), 0, 0)) hc44 3 rfl trivial ?_
      refine R_cv hc44 rfl rfl ?_ (fun r G h => h)
      refine R_s (P := True) (f' := (1, [some (vR 17), some (vR 29), some (vI x), none], [vR 17], LAY (u (u (u A 35 (A 35)) 36 (A 36)) 37 (A 37)) (u (u F 7 (F 7)) 6 a17), 0, 0)) hc45 1 rfl trivial ?_
      refine R_cv hc45 rfl rfl (l_next (A := (u (u (u A 35 (A 35)) 36 (A 36)) 37 (A 37))) (F := (u (u F 7 (F 7)) 6 a17)) (LENS_u (LENS_u (LENS_u hL (by show (A 35).length = (A 35).length; omega)) (by show (A 36).length = (A 36).length; omega)) (by show (A 37).length = (A 37).length; omega)) h5 ⟨by (show 0 ≤ a17); omega, by (show a17 ≤ F 5); omega⟩) (fun r G9 hp9 => ?_)
      obtain ⟨e1, rfl⟩ := hp9
      have e2 : r = some (vI (nx (A 18) (F 5) (a17))) := e1
      clear e1
      subst e2
      refine R_s (f' := (4, [some (vR 17), some (vR 29), some (vI x), none], [vI (nx (A 18) (F 5) (a17))], LAY (u (u (u A 35 (A 35)) 36 (A 36)) 37 (A 37)) (u (u F 7 (F 7)) 6 a17), 0, 0)) hc45 0 rfl trivial ?_
      refine R_s (P := True) (f' := (6, [some (vR 17), some (vR 29), some (vI x), none], [vI 97, vI (nx (A 18) (F 5) (a17))], LAY (u (u (u A 35 (A 35)) 36 (A 36)) 37 (A 37)) (u (u F 7 (F 7)) 6 a17), 0, 0)) hc45 1 rfl trivial ?_
      refine R_ic (t := 23) hc45 rfl rfl (fun (c3 : ¬ nx (A 18) (F 5) (a17) = 97) => ?_) (fun (c3 : ¬ (¬ nx (A 18) (F 5) (a17) = 97)) => ?_)
      · refine R_s (P := True) (f' := (26, [some (vR 17), some (vR 29), some (vI x), none], [vS 4, vR 17], LAY (u (u (u A 35 (A 35)) 36 (A 36)) 37 (A 37)) (u (u F 7 (F 7)) 6 a17), 0, 0)) hc45 2 rfl trivial ?_
        refine R_cv hc45 rfl rfl (l_word4 (A := (u (u (u A 35 (A 35)) 36 (A 36)) 37 (A 37))) (F := (u (u F 7 (F 7)) 6 a17)) (LENS_u (LENS_u (LENS_u hL (by show (A 35).length = (A 35).length; omega)) (by show (A 36).length = (A 36).length; omega)) (by show (A 37).length = (A 37).length; omega)) h5 ⟨by (show 0 ≤ a17); omega, by (show a17 ≤ F 5); omega⟩) (fun r G9 hp9 => ?_)
        obtain ⟨b18, a18, rfl, rfl, hb18, hw18, p18, q18⟩ := hp9
        have p18 : 0 ≤ a18 := p18
        have q18 : a18 ≤ F 5 := q18
        refine R_s (f' := (29, [some (vR 17), some (vR 29), some (vI x), none], [vI b18], LAY (u (u (u A 35 (A 35)) 36 (A 36)) 37 (A 37)) (u (u F 7 (F 7)) 6 a18), 0, 0)) hc45 0 rfl trivial ?_
        refine R_if (t := 34) hc45 rfl rfl (fun (c4 : ¬ b18 = 0) => ?_) (fun (c4 : ¬ (¬ b18 = 0)) => ?_)
        · refine R_s (P := True) (f' := (35, [some (vR 17), some (vR 29), some (vI x), none], [vR 17], LAY (u (u (u A 35 (A 35)) 36 (A 36)) 37 (A 37)) (u (u F 7 (F 7)) 6 a18), 0, 0)) hc45 1 rfl trivial ?_
          refine R_cv hc45 rfl rfl (l_next (A := (u (u (u A 35 (A 35)) 36 (A 36)) 37 (A 37))) (F := (u (u F 7 (F 7)) 6 a18)) (LENS_u (LENS_u (LENS_u hL (by show (A 35).length = (A 35).length; omega)) (by show (A 36).length = (A 36).length; omega)) (by show (A 37).length = (A 37).length; omega)) h5 ⟨by (show 0 ≤ a18); omega, by (show a18 ≤ F 5); omega⟩) (fun r G9 hp9 => ?_)
          obtain ⟨e1, rfl⟩ := hp9
          have e2 : r = some (vI (nx (A 18) (F 5) (a18))) := e1
          clear e1
          subst e2
          refine R_s (f' := (38, [some (vR 17), some (vR 29), some (vI x), none], [vI (nx (A 18) (F 5) (a18))], LAY (u (u (u A 35 (A 35)) 36 (A 36)) 37 (A 37)) (u (u F 7 (F 7)) 6 a18), 0, 0)) hc45 0 rfl trivial ?_
          refine R_s (P := True) (f' := (40, [some (vR 17), some (vR 29), some (vI x), none], [vI 101, vI (nx (A 18) (F 5) (a18))], LAY (u (u (u A 35 (A 35)) 36 (A 36)) 37 (A 37)) (u (u F 7 (F 7)) 6 a18), 0, 0)) hc45 1 rfl trivial ?_
          refine R_ic (t := 47) hc45 rfl rfl (fun (c5 : ¬ nx (A 18) (F 5) (a18) = 101) => ?_) (fun (c5 : ¬ (¬ nx (A 18) (F 5) (a18) = 101)) => ?_)
          · refine R_s (P := True) (f' := (55, [some (vR 17), some (vR 29), some (vI x), some (vI 0)], [vI 0, vI x, vR 35], LAY (u (u (u A 35 (A 35)) 36 (A 36)) 37 (A 37)) (u (u F 7 (F 7)) 6 a18), 0, 0)) hc45 6 rfl trivial ?_
            refine R_if (t := 62) hc45 rfl rfl (fun (_ : 0 = 0) => ?_) (fun (z : ¬ (0 = 0)) => absurd (by decide) z)
            refine R_s (P := (0 ≤ x ∧ x < ((A 35).length : Int)) ∧ True) (f' := (66, [some (vR 17), some (vR 29), some (vI x), some (vI 0)], [vI 0, vR 17], LAY (u (u (u A 36 (A 36)) 37 (A 37)) 35 (wr (A 35) x 2)) (u (u F 7 (F 7)) 6 a18), 0, 0)) hc45 4 rfl ⟨⟨by omega, by omega⟩, trivial⟩ ?_
            refine R_if (t := 74) hc45 rfl rfl (fun (_ : 0 = 0) => ?_) (fun (z : ¬ (0 = 0)) => absurd (by decide) z)
            refine R_s (P := True) (f' := (76, [some (vR 17), some (vR 29), some (vI x), some (vI 0)], [vS 6, vR 17], LAY (u (u (u A 36 (A 36)) 37 (A 37)) 35 (wr (A 35) x 2)) (u (u F 7 (F 7)) 6 a18), 0, 0)) hc45 1 rfl trivial ?_
            refine R_cv hc45 rfl rfl (l_word6 (A := (u (u (u A 36 (A 36)) 37 (A 37)) 35 (wr (A 35) x 2))) (F := (u (u F 7 (F 7)) 6 a18)) (LENS_u (LENS_u (LENS_u hL (by show (A 36).length = (A 36).length; omega)) (by show (A 37).length = (A 37).length; omega)) (by show (wr (A 35) x 2).length = (A 35).length; simp only [wr_len])) h5 ⟨by (show 0 ≤ a18); omega, by (show a18 ≤ F 5); omega⟩) (fun r G9 hp9 => ?_)
            obtain ⟨b19, a19, rfl, rfl, hb19, hw19, p19, q19⟩ := hp9
            have p19 : 0 ≤ a19 := p19
            have q19 : a19 ≤ F 5 := q19
            refine R_s (f' := (79, [some (vR 17), some (vR 29), some (vI x), some (vI 0)], [vI b19], LAY (u (u (u A 36 (A 36)) 37 (A 37)) 35 (wr (A 35) x 2)) (u (u F 7 (F 7)) 6 a19), 0, 0)) hc45 0 rfl trivial ?_
            refine R_retz hc45 rfl rfl (by omega) ?_
            refine R_s (f' := (26, [some (vR 17), some (vR 29), some (vI x), none], [vI b19], LAY (u (u (u A 36 (A 36)) 37 (A 37)) 35 (wr (A 35) x 2)) (u (u F 7 (F 7)) 6 a19), 0, 0)) hc44 0 rfl trivial ?_
            refine R_if (t := 31) hc44 rfl rfl (fun (c8 : ¬ b19 = 0) => ?_) (fun (c8 : ¬ (¬ b19 = 0)) => ?_)
            · refine R_s (P := True) (f' := (32, [some (vR 17), some (vR 29), some (vI x), none], [vR 17], LAY (u (u (u A 36 (A 36)) 37 (A 37)) 35 (wr (A 35) x 2)) (u (u F 7 (F 7)) 6 a19), 0, 0)) hc44 1 rfl trivial ?_
              refine R_cv hc44 rfl rfl (l_next (A := (u (u (u A 36 (A 36)) 37 (A 37)) 35 (wr (A 35) x 2))) (F := (u (u F 7 (F 7)) 6 a19)) (LENS_u (LENS_u (LENS_u hL (by show (A 36).length = (A 36).length; omega)) (by show (A 37).length = (A 37).length; omega)) (by show (wr (A 35) x 2).length = (A 35).length; simp only [wr_len])) h5 ⟨by (show 0 ≤ a19); omega, by (show a19 ≤ F 5); omega⟩) (fun r G9 hp9 => ?_)
              obtain ⟨e1, rfl⟩ := hp9
              have e2 : r = some (vI (nx (A 18) (F 5) (a19))) := e1
              clear e1
              subst e2
              refine R_s (f' := (35, [some (vR 17), some (vR 29), some (vI x), none], [vI (nx (A 18) (F 5) (a19))], LAY (u (u (u A 36 (A 36)) 37 (A 37)) 35 (wr (A 35) x 2)) (u (u F 7 (F 7)) 6 a19), 0, 0)) hc44 0 rfl trivial ?_
              refine R_s (P := True) (f' := (39, [some (vR 17), some (vR 29), some (vI x), some (vI (nx (A 18) (F 5) (a19)))], [vI 61, vI (nx (A 18) (F 5) (a19))], LAY (u (u (u A 36 (A 36)) 37 (A 37)) 35 (wr (A 35) x 2)) (u (u F 7 (F 7)) 6 a19), 0, 0)) hc44 3 rfl trivial ?_
              refine R_ic (t := 56) hc44 rfl rfl (fun (c9 : nx (A 18) (F 5) (a19) = 61) => ?_) (fun (c9 : ¬ (nx (A 18) (F 5) (a19) = 61)) => ?_)
              · refine R_s (P := (0 ≤ x ∧ x < ((A 36).length : Int)) ∧ inI (a19 + 1) ∧ True) (f' := (75, [some (vR 17), some (vR 29), some (vI x), some (vI (nx (A 18) (F 5) (a19)))], [vI 4, vR 17], LAY (u (u (u A 37 (A 37)) 35 (wr (A 35) x 2)) 36 (wr (A 36) x (nx (A 18) (F 5) (a19)))) (u (u F 7 (F 7)) 6 (a19 + 1)), 0, 0)) hc44 13 rfl ⟨⟨by omega, by omega⟩, ⟨by omega, by omega⟩, trivial⟩ ?_
                refine R_cv hc44 rfl rfl (l_numb (A := (u (u (u A 37 (A 37)) 35 (wr (A 35) x 2)) 36 (wr (A 36) x (nx (A 18) (F 5) (a19))))) (F := (u (u F 7 (F 7)) 6 (a19 + 1))) (LENS_u (LENS_u (LENS_u hL (by show (A 37).length = (A 37).length; omega)) (by show (wr (A 35) x 2).length = (A 35).length; simp only [wr_len])) (by show (wr (A 36) x (nx (A 18) (F 5) (a19))).length = (A 36).length; simp only [wr_len])) h5 ⟨by (show 0 ≤ a19 + 1); omega, by (have := nx_in (l := A 18) (n := F 5) (a := a19) (by omega)); (show a19 + 1 ≤ F 5); omega⟩ (kk := 4) (by decide) rfl) (fun r G9 hp9 => ?_)
                obtain ⟨b20, a20, v20, rfl, rfl, hb20, hw20, p20, q20, w20⟩ := hp9
                have p20 : 0 ≤ a20 := p20
                have q20 : a20 ≤ F 5 := q20
                refine R_s (f' := (78, [some (vR 17), some (vR 29), some (vI x), some (vI (nx (A 18) (F 5) (a19)))], [vI b20], LAY (u (u (u A 37 (A 37)) 35 (wr (A 35) x 2)) 36 (wr (A 36) x (nx (A 18) (F 5) (a19)))) (u (u F 6 a20) 7 v20), 0, 0)) hc44 0 rfl trivial ?_
                refine R_if (t := 83) hc44 rfl rfl (fun (c10 : ¬ b20 = 0) => ?_) (fun (c10 : ¬ (¬ b20 = 0)) => ?_)
                · refine R_s (P := (0 ≤ x ∧ x < ((A 37).length : Int)) ∧ True) (f' := (94, [some (vR 17), some (vR 29), some (vI x), some (vI (nx (A 18) (F 5) (a19)))], [vI 1], LAY (u (u (u A 35 (wr (A 35) x 2)) 36 (wr (A 36) x (nx (A 18) (F 5) (a19)))) 37 (wr (A 37) x v20)) (u (u F 6 a20) 7 v20), 0, 0)) hc44 7 rfl ⟨⟨by omega, by omega⟩, trivial⟩ ?_
                  refine R_retz hc44 rfl rfl (Or.inr rfl) ⟨1, wr (A 35) x 2, wr (A 36) x (nx (A 18) (F 5) (a19)), wr (A 37) x v20, a20, v20, rfl, rfl, (by (try simp only [wr_len]); omega), (by (try simp only [wr_len]); omega), (by (try simp only [wr_len]); omega), by decide, by omega, by first | omega | (have := nx_in (l := A 18) (n := F 5) (a := F 6) (by omega); omega), fun q hq => by rw [rd_wr_n (by omega) (by omega) (by omega)], fun q hq => by rw [rd_wr_n (by omega) (by omega) (by omega)], fun q hq => by rw [rd_wr_n (by omega) (by omega) (by omega)], ?_⟩
                  have ehw17 : b17 = 1 := by omega
                  rw [ehw17] at hw17
                  have hw17n : wD (A 18) (F 5) IFF (0, F 6) = (0, a17) := hw17
                  have ehw18 : b18 = 1 := by omega
                  rw [ehw18] at hw18
                  have hw18n : wD (A 18) (F 5) YY (0, a17) = (0, a18) := hw18
                  have ehw19 : b19 = 1 := by omega
                  rw [ehw19] at hw19
                  have hw19n : wD (A 18) (F 5) IELD (0, a18) = (0, a19) := hw19
                  have ehw20 : b20 = 1 := by omega
                  rw [ehw20] at hw20
                  have hw20n : dG (A 18) (F 5) 4 (0, a19 + 1) = ((0, a20), v20) := hw20
                  have hYe : eE (A 18) (F 5) 121 (0, a17) = (0, a18) := hw18n
                  have e2 : t2 (A 18) (F 5) (0, F 6) = ((0, a19), 1) := by
                    unfold t2
                    rw [hw17n]
                    rw [if_pos rfl]
                    unfold fD
                    (try dsimp only)
                    rw [if_neg (by omega), hYe]
                    rw [if_neg (fun z => by have := z.2; (try dsimp only at this); omega), hw19n]
                  have e3 : t3 (A 18) (F 5) (0, F 6) = (0, a19 + 1) := by
                    unfold t3
                    rw [e2]
                    rw [if_pos ⟨rfl, by (try dsimp only); omega⟩]
                  have e4 : dG (A 18) (F 5) 4 (t3 (A 18) (F 5) (0, F 6)) = ((0, a20), v20) := by
                    rw [e3]
                    exact hw20n
                  have eS : tS (A 18) (F 5) (0, F 6) = (0, a20) := by
                    unfold tS
                    rw [if_pos ⟨rfl, by (try dsimp only); omega⟩, e4]
                  have eF : tF (A 18) (F 5) (0, F 6) = 1 := by
                    unfold tF
                    rw [if_pos ⟨rfl, by (try dsimp only); omega⟩, e2]
                  have eG : tG (A 18) (F 5) (0, F 6) = nx (A 18) (F 5) (a19) := by
                    unfold tG
                    rw [e2]
                  have eH : tH (A 18) (F 5) (0, F 6) = v20 := by
                    unfold tH
                    rw [e4]
                  refine ⟨eS, fun _ => ⟨?_, .inr ⟨?_, ?_⟩⟩⟩
                  · rw [eF, ← ex, rd_wr_s (by omega) (by (try simp only [wr_len]); omega)]
                    decide
                  · rw [eG, ← ex, rd_wr_s (by omega) (by (try simp only [wr_len]); omega)]
                  · rw [eH, ← ex, rd_wr_s (by omega) (by (try simp only [wr_len]); omega)]
                · refine R_s (P := True) (f' := (82, [some (vR 17), some (vR 29), some (vI x), some (vI (nx (A 18) (F 5) (a19)))], [vI 0], LAY (u (u (u A 37 (A 37)) 35 (wr (A 35) x 2)) 36 (wr (A 36) x (nx (A 18) (F 5) (a19)))) (u (u F 6 a20) 7 v20), 0, 0)) hc44 1 rfl trivial ?_
                  refine R_retz hc44 rfl rfl (Or.inl rfl) ⟨0, wr (A 35) x 2, wr (A 36) x (nx (A 18) (F 5) (a19)), A 37, a20, v20, rfl, rfl, (by (try simp only [wr_len]); omega), (by (try simp only [wr_len]); omega), (by (try simp only [wr_len]); omega), by decide, by omega, by first | omega | (have := nx_in (l := A 18) (n := F 5) (a := F 6) (by omega); omega), fun q hq => by rw [rd_wr_n (by omega) (by omega) (by omega)], fun q hq => by rw [rd_wr_n (by omega) (by omega) (by omega)], fun _ _ => rfl, ?_, fun z => absurd z (by decide)⟩
                  have ehw17 : b17 = 1 := by omega
                  rw [ehw17] at hw17
                  have hw17n : wD (A 18) (F 5) IFF (0, F 6) = (0, a17) := hw17
                  have ehw18 : b18 = 1 := by omega
                  rw [ehw18] at hw18
                  have hw18n : wD (A 18) (F 5) YY (0, a17) = (0, a18) := hw18
                  have ehw19 : b19 = 1 := by omega
                  rw [ehw19] at hw19
                  have hw19n : wD (A 18) (F 5) IELD (0, a18) = (0, a19) := hw19
                  have ehw20 : b20 = 0 := by omega
                  rw [ehw20] at hw20
                  have hw20n : dG (A 18) (F 5) 4 (0, a19 + 1) = ((1, a20), v20) := hw20
                  have hYe : eE (A 18) (F 5) 121 (0, a17) = (0, a18) := hw18n
                  have e2 : t2 (A 18) (F 5) (0, F 6) = ((0, a19), 1) := by
                    unfold t2
                    rw [hw17n]
                    rw [if_pos rfl]
                    unfold fD
                    (try dsimp only)
                    rw [if_neg (by omega), hYe]
                    rw [if_neg (fun z => by have := z.2; (try dsimp only at this); omega), hw19n]
                  have e3 : t3 (A 18) (F 5) (0, F 6) = (0, a19 + 1) := by
                    unfold t3
                    rw [e2]
                    rw [if_pos ⟨rfl, by (try dsimp only); omega⟩]
                  have e4 : dG (A 18) (F 5) 4 (t3 (A 18) (F 5) (0, F 6)) = ((1, a20), v20) := by
                    rw [e3]
                    exact hw20n
                  have eS : tS (A 18) (F 5) (0, F 6) = (1, a20) := by
                    unfold tS
                    rw [if_pos ⟨rfl, by (try dsimp only); omega⟩, e4]
                  exact eS
              · refine R_s (P := True) (f' := (45, [some (vR 17), some (vR 29), some (vI x), some (vI (nx (A 18) (F 5) (a19)))], [vI 60, vI (nx (A 18) (F 5) (a19))], LAY (u (u (u A 36 (A 36)) 37 (A 37)) 35 (wr (A 35) x 2)) (u (u F 7 (F 7)) 6 a19), 0, 0)) hc44 2 rfl trivial ?_
                refine R_ic (t := 56) hc44 rfl rfl (fun (c11 : nx (A 18) (F 5) (a19) = 60) => ?_) (fun (c11 : ¬ (nx (A 18) (F 5) (a19) = 60)) => ?_)
                · refine R_s (P := (0 ≤ x ∧ x < ((A 36).length : Int)) ∧ inI (a19 + 1) ∧ True) (f' := (75, [some (vR 17), some (vR 29), some (vI x), some (vI (nx (A 18) (F 5) (a19)))], [vI 4, vR 17], LAY (u (u (u A 37 (A 37)) 35 (wr (A 35) x 2)) 36 (wr (A 36) x (nx (A 18) (F 5) (a19)))) (u (u F 7 (F 7)) 6 (a19 + 1)), 0, 0)) hc44 13 rfl ⟨⟨by omega, by omega⟩, ⟨by omega, by omega⟩, trivial⟩ ?_
                  refine R_cv hc44 rfl rfl (l_numb (A := (u (u (u A 37 (A 37)) 35 (wr (A 35) x 2)) 36 (wr (A 36) x (nx (A 18) (F 5) (a19))))) (F := (u (u F 7 (F 7)) 6 (a19 + 1))) (LENS_u (LENS_u (LENS_u hL (by show (A 37).length = (A 37).length; omega)) (by show (wr (A 35) x 2).length = (A 35).length; simp only [wr_len])) (by show (wr (A 36) x (nx (A 18) (F 5) (a19))).length = (A 36).length; simp only [wr_len])) h5 ⟨by (show 0 ≤ a19 + 1); omega, by (have := nx_in (l := A 18) (n := F 5) (a := a19) (by omega)); (show a19 + 1 ≤ F 5); omega⟩ (kk := 4) (by decide) rfl) (fun r G9 hp9 => ?_)
                  obtain ⟨b21, a21, v21, rfl, rfl, hb21, hw21, p21, q21, w21⟩ := hp9
                  have p21 : 0 ≤ a21 := p21
                  have q21 : a21 ≤ F 5 := q21
                  refine R_s (f' := (78, [some (vR 17), some (vR 29), some (vI x), some (vI (nx (A 18) (F 5) (a19)))], [vI b21], LAY (u (u (u A 37 (A 37)) 35 (wr (A 35) x 2)) 36 (wr (A 36) x (nx (A 18) (F 5) (a19)))) (u (u F 6 a21) 7 v21), 0, 0)) hc44 0 rfl trivial ?_
                  refine R_if (t := 83) hc44 rfl rfl (fun (c12 : ¬ b21 = 0) => ?_) (fun (c12 : ¬ (¬ b21 = 0)) => ?_)
                  · refine R_s (P := (0 ≤ x ∧ x < ((A 37).length : Int)) ∧ True) (f' := (94, [some (vR 17), some (vR 29), some (vI x), some (vI (nx (A 18) (F 5) (a19)))], [vI 1], LAY (u (u (u A 35 (wr (A 35) x 2)) 36 (wr (A 36) x (nx (A 18) (F 5) (a19)))) 37 (wr (A 37) x v21)) (u (u F 6 a21) 7 v21), 0, 0)) hc44 7 rfl ⟨⟨by omega, by omega⟩, trivial⟩ ?_
                    refine R_retz hc44 rfl rfl (Or.inr rfl) ⟨1, wr (A 35) x 2, wr (A 36) x (nx (A 18) (F 5) (a19)), wr (A 37) x v21, a21, v21, rfl, rfl, (by (try simp only [wr_len]); omega), (by (try simp only [wr_len]); omega), (by (try simp only [wr_len]); omega), by decide, by omega, by first | omega | (have := nx_in (l := A 18) (n := F 5) (a := F 6) (by omega); omega), fun q hq => by rw [rd_wr_n (by omega) (by omega) (by omega)], fun q hq => by rw [rd_wr_n (by omega) (by omega) (by omega)], fun q hq => by rw [rd_wr_n (by omega) (by omega) (by omega)], ?_⟩
                    have ehw17 : b17 = 1 := by omega
                    rw [ehw17] at hw17
                    have hw17n : wD (A 18) (F 5) IFF (0, F 6) = (0, a17) := hw17
                    have ehw18 : b18 = 1 := by omega
                    rw [ehw18] at hw18
                    have hw18n : wD (A 18) (F 5) YY (0, a17) = (0, a18) := hw18
                    have ehw19 : b19 = 1 := by omega
                    rw [ehw19] at hw19
                    have hw19n : wD (A 18) (F 5) IELD (0, a18) = (0, a19) := hw19
                    have ehw21 : b21 = 1 := by omega
                    rw [ehw21] at hw21
                    have hw21n : dG (A 18) (F 5) 4 (0, a19 + 1) = ((0, a21), v21) := hw21
                    have hYe : eE (A 18) (F 5) 121 (0, a17) = (0, a18) := hw18n
                    have e2 : t2 (A 18) (F 5) (0, F 6) = ((0, a19), 1) := by
                      unfold t2
                      rw [hw17n]
                      rw [if_pos rfl]
                      unfold fD
                      (try dsimp only)
                      rw [if_neg (by omega), hYe]
                      rw [if_neg (fun z => by have := z.2; (try dsimp only at this); omega), hw19n]
                    have e3 : t3 (A 18) (F 5) (0, F 6) = (0, a19 + 1) := by
                      unfold t3
                      rw [e2]
                      rw [if_pos ⟨rfl, by (try dsimp only); omega⟩]
                    have e4 : dG (A 18) (F 5) 4 (t3 (A 18) (F 5) (0, F 6)) = ((0, a21), v21) := by
                      rw [e3]
                      exact hw21n
                    have eS : tS (A 18) (F 5) (0, F 6) = (0, a21) := by
                      unfold tS
                      rw [if_pos ⟨rfl, by (try dsimp only); omega⟩, e4]
                    have eF : tF (A 18) (F 5) (0, F 6) = 1 := by
                      unfold tF
                      rw [if_pos ⟨rfl, by (try dsimp only); omega⟩, e2]
                    have eG : tG (A 18) (F 5) (0, F 6) = nx (A 18) (F 5) (a19) := by
                      unfold tG
                      rw [e2]
                    have eH : tH (A 18) (F 5) (0, F 6) = v21 := by
                      unfold tH
                      rw [e4]
                    refine ⟨eS, fun _ => ⟨?_, .inr ⟨?_, ?_⟩⟩⟩
                    · rw [eF, ← ex, rd_wr_s (by omega) (by (try simp only [wr_len]); omega)]
                      decide
                    · rw [eG, ← ex, rd_wr_s (by omega) (by (try simp only [wr_len]); omega)]
                    · rw [eH, ← ex, rd_wr_s (by omega) (by (try simp only [wr_len]); omega)]
                  · refine R_s (P := True) (f' := (82, [some (vR 17), some (vR 29), some (vI x), some (vI (nx (A 18) (F 5) (a19)))], [vI 0], LAY (u (u (u A 37 (A 37)) 35 (wr (A 35) x 2)) 36 (wr (A 36) x (nx (A 18) (F 5) (a19)))) (u (u F 6 a21) 7 v21), 0, 0)) hc44 1 rfl trivial ?_
                    refine R_retz hc44 rfl rfl (Or.inl rfl) ⟨0, wr (A 35) x 2, wr (A 36) x (nx (A 18) (F 5) (a19)), A 37, a21, v21, rfl, rfl, (by (try simp only [wr_len]); omega), (by (try simp only [wr_len]); omega), (by (try simp only [wr_len]); omega), by decide, by omega, by first | omega | (have := nx_in (l := A 18) (n := F 5) (a := F 6) (by omega); omega), fun q hq => by rw [rd_wr_n (by omega) (by omega) (by omega)], fun q hq => by rw [rd_wr_n (by omega) (by omega) (by omega)], fun _ _ => rfl, ?_, fun z => absurd z (by decide)⟩
                    have ehw17 : b17 = 1 := by omega
                    rw [ehw17] at hw17
                    have hw17n : wD (A 18) (F 5) IFF (0, F 6) = (0, a17) := hw17
                    have ehw18 : b18 = 1 := by omega
                    rw [ehw18] at hw18
                    have hw18n : wD (A 18) (F 5) YY (0, a17) = (0, a18) := hw18
                    have ehw19 : b19 = 1 := by omega
                    rw [ehw19] at hw19
                    have hw19n : wD (A 18) (F 5) IELD (0, a18) = (0, a19) := hw19
                    have ehw21 : b21 = 0 := by omega
                    rw [ehw21] at hw21
                    have hw21n : dG (A 18) (F 5) 4 (0, a19 + 1) = ((1, a21), v21) := hw21
                    have hYe : eE (A 18) (F 5) 121 (0, a17) = (0, a18) := hw18n
                    have e2 : t2 (A 18) (F 5) (0, F 6) = ((0, a19), 1) := by
                      unfold t2
                      rw [hw17n]
                      rw [if_pos rfl]
                      unfold fD
                      (try dsimp only)
                      rw [if_neg (by omega), hYe]
                      rw [if_neg (fun z => by have := z.2; (try dsimp only at this); omega), hw19n]
                    have e3 : t3 (A 18) (F 5) (0, F 6) = (0, a19 + 1) := by
                      unfold t3
                      rw [e2]
                      rw [if_pos ⟨rfl, by (try dsimp only); omega⟩]
                    have e4 : dG (A 18) (F 5) 4 (t3 (A 18) (F 5) (0, F 6)) = ((1, a21), v21) := by
                      rw [e3]
                      exact hw21n
                    have eS : tS (A 18) (F 5) (0, F 6) = (1, a21) := by
                      unfold tS
                      rw [if_pos ⟨rfl, by (try dsimp only); omega⟩, e4]
                    exact eS
                · refine R_s (P := True) (f' := (51, [some (vR 17), some (vR 29), some (vI x), some (vI (nx (A 18) (F 5) (a19)))], [vI 62, vI (nx (A 18) (F 5) (a19))], LAY (u (u (u A 36 (A 36)) 37 (A 37)) 35 (wr (A 35) x 2)) (u (u F 7 (F 7)) 6 a19), 0, 0)) hc44 2 rfl trivial ?_
                  refine R_ic (t := 56) hc44 rfl rfl (fun (c13 : nx (A 18) (F 5) (a19) = 62) => ?_) (fun (c13 : ¬ (nx (A 18) (F 5) (a19) = 62)) => ?_)
                  · refine R_s (P := (0 ≤ x ∧ x < ((A 36).length : Int)) ∧ inI (a19 + 1) ∧ True) (f' := (75, [some (vR 17), some (vR 29), some (vI x), some (vI (nx (A 18) (F 5) (a19)))], [vI 4, vR 17], LAY (u (u (u A 37 (A 37)) 35 (wr (A 35) x 2)) 36 (wr (A 36) x (nx (A 18) (F 5) (a19)))) (u (u F 7 (F 7)) 6 (a19 + 1)), 0, 0)) hc44 13 rfl ⟨⟨by omega, by omega⟩, ⟨by omega, by omega⟩, trivial⟩ ?_
                    refine R_cv hc44 rfl rfl (l_numb (A := (u (u (u A 37 (A 37)) 35 (wr (A 35) x 2)) 36 (wr (A 36) x (nx (A 18) (F 5) (a19))))) (F := (u (u F 7 (F 7)) 6 (a19 + 1))) (LENS_u (LENS_u (LENS_u hL (by show (A 37).length = (A 37).length; omega)) (by show (wr (A 35) x 2).length = (A 35).length; simp only [wr_len])) (by show (wr (A 36) x (nx (A 18) (F 5) (a19))).length = (A 36).length; simp only [wr_len])) h5 ⟨by (show 0 ≤ a19 + 1); omega, by (have := nx_in (l := A 18) (n := F 5) (a := a19) (by omega)); (show a19 + 1 ≤ F 5); omega⟩ (kk := 4) (by decide) rfl) (fun r G9 hp9 => ?_)
                    obtain ⟨b22, a22, v22, rfl, rfl, hb22, hw22, p22, q22, w22⟩ := hp9
                    have p22 : 0 ≤ a22 := p22
                    have q22 : a22 ≤ F 5 := q22
                    refine R_s (f' := (78, [some (vR 17), some (vR 29), some (vI x), some (vI (nx (A 18) (F 5) (a19)))], [vI b22], LAY (u (u (u A 37 (A 37)) 35 (wr (A 35) x 2)) 36 (wr (A 36) x (nx (A 18) (F 5) (a19)))) (u (u F 6 a22) 7 v22), 0, 0)) hc44 0 rfl trivial ?_
                    refine R_if (t := 83) hc44 rfl rfl (fun (c14 : ¬ b22 = 0) => ?_) (fun (c14 : ¬ (¬ b22 = 0)) => ?_)
                    · refine R_s (P := (0 ≤ x ∧ x < ((A 37).length : Int)) ∧ True) (f' := (94, [some (vR 17), some (vR 29), some (vI x), some (vI (nx (A 18) (F 5) (a19)))], [vI 1], LAY (u (u (u A 35 (wr (A 35) x 2)) 36 (wr (A 36) x (nx (A 18) (F 5) (a19)))) 37 (wr (A 37) x v22)) (u (u F 6 a22) 7 v22), 0, 0)) hc44 7 rfl ⟨⟨by omega, by omega⟩, trivial⟩ ?_
                      refine R_retz hc44 rfl rfl (Or.inr rfl) ⟨1, wr (A 35) x 2, wr (A 36) x (nx (A 18) (F 5) (a19)), wr (A 37) x v22, a22, v22, rfl, rfl, (by (try simp only [wr_len]); omega), (by (try simp only [wr_len]); omega), (by (try simp only [wr_len]); omega), by decide, by omega, by first | omega | (have := nx_in (l := A 18) (n := F 5) (a := F 6) (by omega); omega), fun q hq => by rw [rd_wr_n (by omega) (by omega) (by omega)], fun q hq => by rw [rd_wr_n (by omega) (by omega) (by omega)], fun q hq => by rw [rd_wr_n (by omega) (by omega) (by omega)], ?_⟩
                      have ehw17 : b17 = 1 := by omega
                      rw [ehw17] at hw17
                      have hw17n : wD (A 18) (F 5) IFF (0, F 6) = (0, a17) := hw17
                      have ehw18 : b18 = 1 := by omega
                      rw [ehw18] at hw18
                      have hw18n : wD (A 18) (F 5) YY (0, a17) = (0, a18) := hw18
                      have ehw19 : b19 = 1 := by omega
                      rw [ehw19] at hw19
                      have hw19n : wD (A 18) (F 5) IELD (0, a18) = (0, a19) := hw19
                      have ehw22 : b22 = 1 := by omega
                      rw [ehw22] at hw22
                      have hw22n : dG (A 18) (F 5) 4 (0, a19 + 1) = ((0, a22), v22) := hw22
                      have hYe : eE (A 18) (F 5) 121 (0, a17) = (0, a18) := hw18n
                      have e2 : t2 (A 18) (F 5) (0, F 6) = ((0, a19), 1) := by
                        unfold t2
                        rw [hw17n]
                        rw [if_pos rfl]
                        unfold fD
                        (try dsimp only)
                        rw [if_neg (by omega), hYe]
                        rw [if_neg (fun z => by have := z.2; (try dsimp only at this); omega), hw19n]
                      have e3 : t3 (A 18) (F 5) (0, F 6) = (0, a19 + 1) := by
                        unfold t3
                        rw [e2]
                        rw [if_pos ⟨rfl, by (try dsimp only); omega⟩]
                      have e4 : dG (A 18) (F 5) 4 (t3 (A 18) (F 5) (0, F 6)) = ((0, a22), v22) := by
                        rw [e3]
                        exact hw22n
                      have eS : tS (A 18) (F 5) (0, F 6) = (0, a22) := by
                        unfold tS
                        rw [if_pos ⟨rfl, by (try dsimp only); omega⟩, e4]
                      have eF : tF (A 18) (F 5) (0, F 6) = 1 := by
                        unfold tF
                        rw [if_pos ⟨rfl, by (try dsimp only); omega⟩, e2]
                      have eG : tG (A 18) (F 5) (0, F 6) = nx (A 18) (F 5) (a19) := by
                        unfold tG
                        rw [e2]
                      have eH : tH (A 18) (F 5) (0, F 6) = v22 := by
                        unfold tH
                        rw [e4]
                      refine ⟨eS, fun _ => ⟨?_, .inr ⟨?_, ?_⟩⟩⟩
                      · rw [eF, ← ex, rd_wr_s (by omega) (by (try simp only [wr_len]); omega)]
                        decide
                      · rw [eG, ← ex, rd_wr_s (by omega) (by (try simp only [wr_len]); omega)]
                      · rw [eH, ← ex, rd_wr_s (by omega) (by (try simp only [wr_len]); omega)]
                    · refine R_s (P := True) (f' := (82, [some (vR 17), some (vR 29), some (vI x), some (vI (nx (A 18) (F 5) (a19)))], [vI 0], LAY (u (u (u A 37 (A 37)) 35 (wr (A 35) x 2)) 36 (wr (A 36) x (nx (A 18) (F 5) (a19)))) (u (u F 6 a22) 7 v22), 0, 0)) hc44 1 rfl trivial ?_
                      refine R_retz hc44 rfl rfl (Or.inl rfl) ⟨0, wr (A 35) x 2, wr (A 36) x (nx (A 18) (F 5) (a19)), A 37, a22, v22, rfl, rfl, (by (try simp only [wr_len]); omega), (by (try simp only [wr_len]); omega), (by (try simp only [wr_len]); omega), by decide, by omega, by first | omega | (have := nx_in (l := A 18) (n := F 5) (a := F 6) (by omega); omega), fun q hq => by rw [rd_wr_n (by omega) (by omega) (by omega)], fun q hq => by rw [rd_wr_n (by omega) (by omega) (by omega)], fun _ _ => rfl, ?_, fun z => absurd z (by decide)⟩
                      have ehw17 : b17 = 1 := by omega
                      rw [ehw17] at hw17
                      have hw17n : wD (A 18) (F 5) IFF (0, F 6) = (0, a17) := hw17
                      have ehw18 : b18 = 1 := by omega
                      rw [ehw18] at hw18
                      have hw18n : wD (A 18) (F 5) YY (0, a17) = (0, a18) := hw18
                      have ehw19 : b19 = 1 := by omega
                      rw [ehw19] at hw19
                      have hw19n : wD (A 18) (F 5) IELD (0, a18) = (0, a19) := hw19
                      have ehw22 : b22 = 0 := by omega
                      rw [ehw22] at hw22
                      have hw22n : dG (A 18) (F 5) 4 (0, a19 + 1) = ((1, a22), v22) := hw22
                      have hYe : eE (A 18) (F 5) 121 (0, a17) = (0, a18) := hw18n
                      have e2 : t2 (A 18) (F 5) (0, F 6) = ((0, a19), 1) := by
                        unfold t2
                        rw [hw17n]
                        rw [if_pos rfl]
                        unfold fD
                        (try dsimp only)
                        rw [if_neg (by omega), hYe]
                        rw [if_neg (fun z => by have := z.2; (try dsimp only at this); omega), hw19n]
                      have e3 : t3 (A 18) (F 5) (0, F 6) = (0, a19 + 1) := by
                        unfold t3
                        rw [e2]
                        rw [if_pos ⟨rfl, by (try dsimp only); omega⟩]
                      have e4 : dG (A 18) (F 5) 4 (t3 (A 18) (F 5) (0, F 6)) = ((1, a22), v22) := by
                        rw [e3]
                        exact hw22n
                      have eS : tS (A 18) (F 5) (0, F 6) = (1, a22) := by
                        unfold tS
                        rw [if_pos ⟨rfl, by (try dsimp only); omega⟩, e4]
                      exact eS
                  · refine R_s (P := True) (f' := (55, [some (vR 17), some (vR 29), some (vI x), some (vI (nx (A 18) (F 5) (a19)))], [vI 0], LAY (u (u (u A 36 (A 36)) 37 (A 37)) 35 (wr (A 35) x 2)) (u (u F 7 (F 7)) 6 a19), 0, 0)) hc44 1 rfl trivial ?_
                    refine R_retz hc44 rfl rfl (Or.inl rfl) ⟨0, wr (A 35) x 2, A 36, A 37, a19, F 7, rfl, rfl, (by (try simp only [wr_len]); omega), (by (try simp only [wr_len]); omega), (by (try simp only [wr_len]); omega), by decide, by omega, by first | omega | (have := nx_in (l := A 18) (n := F 5) (a := F 6) (by omega); omega), fun q hq => by rw [rd_wr_n (by omega) (by omega) (by omega)], fun _ _ => rfl, fun _ _ => rfl, ?_, fun z => absurd z (by decide)⟩
                    have ehw17 : b17 = 1 := by omega
                    rw [ehw17] at hw17
                    have hw17n : wD (A 18) (F 5) IFF (0, F 6) = (0, a17) := hw17
                    have ehw18 : b18 = 1 := by omega
                    rw [ehw18] at hw18
                    have hw18n : wD (A 18) (F 5) YY (0, a17) = (0, a18) := hw18
                    have ehw19 : b19 = 1 := by omega
                    rw [ehw19] at hw19
                    have hw19n : wD (A 18) (F 5) IELD (0, a18) = (0, a19) := hw19
                    have hYe : eE (A 18) (F 5) 121 (0, a17) = (0, a18) := hw18n
                    have e2 : t2 (A 18) (F 5) (0, F 6) = ((0, a19), 1) := by
                      unfold t2
                      rw [hw17n]
                      rw [if_pos rfl]
                      unfold fD
                      (try dsimp only)
                      rw [if_neg (by omega), hYe]
                      rw [if_neg (fun z => by have := z.2; (try dsimp only at this); omega), hw19n]
                    have e3 : t3 (A 18) (F 5) (0, F 6) = (1, a19) := by
                      unfold t3
                      rw [e2]
                      rw [if_neg (fun z => by have := z.2; (try dsimp only at this); omega)]
                    have e4 : dG (A 18) (F 5) 4 (t3 (A 18) (F 5) (0, F 6)) = ((1, a19), 0) := by rw [e3, dG_f]
                    have eS : tS (A 18) (F 5) (0, F 6) = (1, a19) := by
                      unfold tS
                      rw [if_pos ⟨rfl, by (try dsimp only); omega⟩, e4]
                    exact eS
            · refine R_s (P := True) (f' := (30, [some (vR 17), some (vR 29), some (vI x), none], [vI 0], LAY (u (u (u A 36 (A 36)) 37 (A 37)) 35 (wr (A 35) x 2)) (u (u F 7 (F 7)) 6 a19), 0, 0)) hc44 1 rfl trivial ?_
              refine R_retz hc44 rfl rfl (Or.inl rfl) ⟨0, wr (A 35) x 2, A 36, A 37, a19, F 7, rfl, rfl, (by (try simp only [wr_len]); omega), (by (try simp only [wr_len]); omega), (by (try simp only [wr_len]); omega), by decide, by omega, by first | omega | (have := nx_in (l := A 18) (n := F 5) (a := F 6) (by omega); omega), fun q hq => by rw [rd_wr_n (by omega) (by omega) (by omega)], fun _ _ => rfl, fun _ _ => rfl, ?_, fun z => absurd z (by decide)⟩
              have ehw17 : b17 = 1 := by omega
              rw [ehw17] at hw17
              have hw17n : wD (A 18) (F 5) IFF (0, F 6) = (0, a17) := hw17
              have ehw18 : b18 = 1 := by omega
              rw [ehw18] at hw18
              have hw18n : wD (A 18) (F 5) YY (0, a17) = (0, a18) := hw18
              have ehw19 : b19 = 0 := by omega
              rw [ehw19] at hw19
              have hw19n : wD (A 18) (F 5) IELD (0, a18) = (1, a19) := hw19
              have hYe : eE (A 18) (F 5) 121 (0, a17) = (0, a18) := hw18n
              have e2 : t2 (A 18) (F 5) (0, F 6) = ((1, a19), 1) := by
                unfold t2
                rw [hw17n]
                rw [if_pos rfl]
                unfold fD
                (try dsimp only)
                rw [if_neg (by omega), hYe]
                rw [if_neg (fun z => by have := z.2; (try dsimp only at this); omega), hw19n]
              have e3 : t3 (A 18) (F 5) (0, F 6) = (1, a19) := by
                unfold t3
                rw [e2]
                rw [if_neg (fun z => absurd (show (1 : Int) = 0 from z.1) (by decide))]
              have e4 : dG (A 18) (F 5) 4 (t3 (A 18) (F 5) (0, F 6)) = ((1, a19), 0) := by rw [e3, dG_f]
              have eS : tS (A 18) (F 5) (0, F 6) = (1, a19) := by
                unfold tS
                rw [if_pos ⟨rfl, by (try dsimp only); omega⟩, e4]
              exact eS
          · refine R_s (P := True) (f' := (55, [some (vR 17), some (vR 29), some (vI x), some (vI 1)], [vI 1, vI x, vR 35], LAY (u (u (u A 35 (A 35)) 36 (A 36)) 37 (A 37)) (u (u F 7 (F 7)) 6 a18), 0, 0)) hc45 7 rfl trivial ?_
            refine R_if (t := 62) hc45 rfl rfl (fun (z : 1 = 0) => absurd z (by decide)) (fun (_ : ¬ (1 = 0)) => ?_)
            refine R_s (P := (0 ≤ x ∧ x < ((A 35).length : Int)) ∧ True) (f' := (66, [some (vR 17), some (vR 29), some (vI x), some (vI 1)], [vI 1, vR 17], LAY (u (u (u A 36 (A 36)) 37 (A 37)) 35 (wr (A 35) x 1)) (u (u F 7 (F 7)) 6 a18), 0, 0)) hc45 5 rfl ⟨⟨by omega, by omega⟩, trivial⟩ ?_
            refine R_if (t := 74) hc45 rfl rfl (fun (z : 1 = 0) => absurd z (by decide)) (fun (_ : ¬ (1 = 0)) => ?_)
            refine R_s (P := True) (f' := (76, [some (vR 17), some (vR 29), some (vI x), some (vI 1)], [vS 5, vR 17], LAY (u (u (u A 36 (A 36)) 37 (A 37)) 35 (wr (A 35) x 1)) (u (u F 7 (F 7)) 6 a18), 0, 0)) hc45 2 rfl trivial ?_
            refine R_cv hc45 rfl rfl (l_word5 (A := (u (u (u A 36 (A 36)) 37 (A 37)) 35 (wr (A 35) x 1))) (F := (u (u F 7 (F 7)) 6 a18)) (LENS_u (LENS_u (LENS_u hL (by show (A 36).length = (A 36).length; omega)) (by show (A 37).length = (A 37).length; omega)) (by show (wr (A 35) x 1).length = (A 35).length; simp only [wr_len])) h5 ⟨by (show 0 ≤ a18); omega, by (show a18 ≤ F 5); omega⟩) (fun r G9 hp9 => ?_)
            obtain ⟨b23, a23, rfl, rfl, hb23, hw23, p23, q23⟩ := hp9
            have p23 : 0 ≤ a23 := p23
            have q23 : a23 ≤ F 5 := q23
            refine R_s (f' := (79, [some (vR 17), some (vR 29), some (vI x), some (vI 1)], [vI b23], LAY (u (u (u A 36 (A 36)) 37 (A 37)) 35 (wr (A 35) x 1)) (u (u F 7 (F 7)) 6 a23), 0, 0)) hc45 0 rfl trivial ?_
            refine R_retz hc45 rfl rfl (by omega) ?_
            refine R_s (f' := (26, [some (vR 17), some (vR 29), some (vI x), none], [vI b23], LAY (u (u (u A 36 (A 36)) 37 (A 37)) 35 (wr (A 35) x 1)) (u (u F 7 (F 7)) 6 a23), 0, 0)) hc44 0 rfl trivial ?_
            refine R_if (t := 31) hc44 rfl rfl (fun (c10 : ¬ b23 = 0) => ?_) (fun (c10 : ¬ (¬ b23 = 0)) => ?_)
            · refine R_s (P := True) (f' := (32, [some (vR 17), some (vR 29), some (vI x), none], [vR 17], LAY (u (u (u A 36 (A 36)) 37 (A 37)) 35 (wr (A 35) x 1)) (u (u F 7 (F 7)) 6 a23), 0, 0)) hc44 1 rfl trivial ?_
              refine R_cv hc44 rfl rfl (l_next (A := (u (u (u A 36 (A 36)) 37 (A 37)) 35 (wr (A 35) x 1))) (F := (u (u F 7 (F 7)) 6 a23)) (LENS_u (LENS_u (LENS_u hL (by show (A 36).length = (A 36).length; omega)) (by show (A 37).length = (A 37).length; omega)) (by show (wr (A 35) x 1).length = (A 35).length; simp only [wr_len])) h5 ⟨by (show 0 ≤ a23); omega, by (show a23 ≤ F 5); omega⟩) (fun r G9 hp9 => ?_)
              obtain ⟨e1, rfl⟩ := hp9
              have e2 : r = some (vI (nx (A 18) (F 5) (a23))) := e1
              clear e1
              subst e2
              refine R_s (f' := (35, [some (vR 17), some (vR 29), some (vI x), none], [vI (nx (A 18) (F 5) (a23))], LAY (u (u (u A 36 (A 36)) 37 (A 37)) 35 (wr (A 35) x 1)) (u (u F 7 (F 7)) 6 a23), 0, 0)) hc44 0 rfl trivial ?_
              refine R_s (P := True) (f' := (39, [some (vR 17), some (vR 29), some (vI x), some (vI (nx (A 18) (F 5) (a23)))], [vI 61, vI (nx (A 18) (F 5) (a23))], LAY (u (u (u A 36 (A 36)) 37 (A 37)) 35 (wr (A 35) x 1)) (u (u F 7 (F 7)) 6 a23), 0, 0)) hc44 3 rfl trivial ?_
              refine R_ic (t := 56) hc44 rfl rfl (fun (c11 : nx (A 18) (F 5) (a23) = 61) => ?_) (fun (c11 : ¬ (nx (A 18) (F 5) (a23) = 61)) => ?_)
              · refine R_s (P := (0 ≤ x ∧ x < ((A 36).length : Int)) ∧ inI (a23 + 1) ∧ True) (f' := (75, [some (vR 17), some (vR 29), some (vI x), some (vI (nx (A 18) (F 5) (a23)))], [vI 4, vR 17], LAY (u (u (u A 37 (A 37)) 35 (wr (A 35) x 1)) 36 (wr (A 36) x (nx (A 18) (F 5) (a23)))) (u (u F 7 (F 7)) 6 (a23 + 1)), 0, 0)) hc44 13 rfl ⟨⟨by omega, by omega⟩, ⟨by omega, by omega⟩, trivial⟩ ?_
                refine R_cv hc44 rfl rfl (l_numb (A := (u (u (u A 37 (A 37)) 35 (wr (A 35) x 1)) 36 (wr (A 36) x (nx (A 18) (F 5) (a23))))) (F := (u (u F 7 (F 7)) 6 (a23 + 1))) (LENS_u (LENS_u (LENS_u hL (by show (A 37).length = (A 37).length; omega)) (by show (wr (A 35) x 1).length = (A 35).length; simp only [wr_len])) (by show (wr (A 36) x (nx (A 18) (F 5) (a23))).length = (A 36).length; simp only [wr_len])) h5 ⟨by (show 0 ≤ a23 + 1); omega, by (have := nx_in (l := A 18) (n := F 5) (a := a23) (by omega)); (show a23 + 1 ≤ F 5); omega⟩ (kk := 4) (by decide) rfl) (fun r G9 hp9 => ?_)
                obtain ⟨b24, a24, v24, rfl, rfl, hb24, hw24, p24, q24, w24⟩ := hp9
                have p24 : 0 ≤ a24 := p24
                have q24 : a24 ≤ F 5 := q24
                refine R_s (f' := (78, [some (vR 17), some (vR 29), some (vI x), some (vI (nx (A 18) (F 5) (a23)))], [vI b24], LAY (u (u (u A 37 (A 37)) 35 (wr (A 35) x 1)) 36 (wr (A 36) x (nx (A 18) (F 5) (a23)))) (u (u F 6 a24) 7 v24), 0, 0)) hc44 0 rfl trivial ?_
                refine R_if (t := 83) hc44 rfl rfl (fun (c12 : ¬ b24 = 0) => ?_) (fun (c12 : ¬ (¬ b24 = 0)) => ?_)
                · refine R_s (P := (0 ≤ x ∧ x < ((A 37).length : Int)) ∧ True) (f' := (94, [some (vR 17), some (vR 29), some (vI x), some (vI (nx (A 18) (F 5) (a23)))], [vI 1], LAY (u (u (u A 35 (wr (A 35) x 1)) 36 (wr (A 36) x (nx (A 18) (F 5) (a23)))) 37 (wr (A 37) x v24)) (u (u F 6 a24) 7 v24), 0, 0)) hc44 7 rfl ⟨⟨by omega, by omega⟩, trivial⟩ ?_
                  refine R_retz hc44 rfl rfl (Or.inr rfl) ⟨1, wr (A 35) x 1, wr (A 36) x (nx (A 18) (F 5) (a23)), wr (A 37) x v24, a24, v24, rfl, rfl, (by (try simp only [wr_len]); omega), (by (try simp only [wr_len]); omega), (by (try simp only [wr_len]); omega), by decide, by omega, by first | omega | (have := nx_in (l := A 18) (n := F 5) (a := F 6) (by omega); omega), fun q hq => by rw [rd_wr_n (by omega) (by omega) (by omega)], fun q hq => by rw [rd_wr_n (by omega) (by omega) (by omega)], fun q hq => by rw [rd_wr_n (by omega) (by omega) (by omega)], ?_⟩
                  have ehw17 : b17 = 1 := by omega
                  rw [ehw17] at hw17
                  have hw17n : wD (A 18) (F 5) IFF (0, F 6) = (0, a17) := hw17
                  have ehw18 : b18 = 1 := by omega
                  rw [ehw18] at hw18
                  have hw18n : wD (A 18) (F 5) YY (0, a17) = (0, a18) := hw18
                  have ehw23 : b23 = 1 := by omega
                  rw [ehw23] at hw23
                  have hw23n : wD (A 18) (F 5) EAR (0, a18) = (0, a23) := hw23
                  have ehw24 : b24 = 1 := by omega
                  rw [ehw24] at hw24
                  have hw24n : dG (A 18) (F 5) 4 (0, a23 + 1) = ((0, a24), v24) := hw24
                  have hYe : eE (A 18) (F 5) 121 (0, a17) = (0, a18) := hw18n
                  have e2 : t2 (A 18) (F 5) (0, F 6) = ((0, a23), 0) := by
                    unfold t2
                    rw [hw17n]
                    rw [if_pos rfl]
                    unfold fD
                    (try dsimp only)
                    rw [if_neg (by omega), hYe]
                    rw [if_pos ⟨rfl, by (try dsimp only); omega⟩, hw23n]
                  have e3 : t3 (A 18) (F 5) (0, F 6) = (0, a23 + 1) := by
                    unfold t3
                    rw [e2]
                    rw [if_pos ⟨rfl, by (try dsimp only); omega⟩]
                  have e4 : dG (A 18) (F 5) 4 (t3 (A 18) (F 5) (0, F 6)) = ((0, a24), v24) := by
                    rw [e3]
                    exact hw24n
                  have eS : tS (A 18) (F 5) (0, F 6) = (0, a24) := by
                    unfold tS
                    rw [if_pos ⟨rfl, by (try dsimp only); omega⟩, e4]
                  have eF : tF (A 18) (F 5) (0, F 6) = 0 := by
                    unfold tF
                    rw [if_pos ⟨rfl, by (try dsimp only); omega⟩, e2]
                  have eG : tG (A 18) (F 5) (0, F 6) = nx (A 18) (F 5) (a23) := by
                    unfold tG
                    rw [e2]
                  have eH : tH (A 18) (F 5) (0, F 6) = v24 := by
                    unfold tH
                    rw [e4]
                  refine ⟨eS, fun _ => ⟨?_, .inr ⟨?_, ?_⟩⟩⟩
                  · rw [eF, ← ex, rd_wr_s (by omega) (by (try simp only [wr_len]); omega)]
                    decide
                  · rw [eG, ← ex, rd_wr_s (by omega) (by (try simp only [wr_len]); omega)]
                  · rw [eH, ← ex, rd_wr_s (by omega) (by (try simp only [wr_len]); omega)]
                · refine R_s (P := True) (f' := (82, [some (vR 17), some (vR 29), some (vI x), some (vI (nx (A 18) (F 5) (a23)))], [vI 0], LAY (u (u (u A 37 (A 37)) 35 (wr (A 35) x 1)) 36 (wr (A 36) x (nx (A 18) (F 5) (a23)))) (u (u F 6 a24) 7 v24), 0, 0)) hc44 1 rfl trivial ?_
                  refine R_retz hc44 rfl rfl (Or.inl rfl) ⟨0, wr (A 35) x 1, wr (A 36) x (nx (A 18) (F 5) (a23)), A 37, a24, v24, rfl, rfl, (by (try simp only [wr_len]); omega), (by (try simp only [wr_len]); omega), (by (try simp only [wr_len]); omega), by decide, by omega, by first | omega | (have := nx_in (l := A 18) (n := F 5) (a := F 6) (by omega); omega), fun q hq => by rw [rd_wr_n (by omega) (by omega) (by omega)], fun q hq => by rw [rd_wr_n (by omega) (by omega) (by omega)], fun _ _ => rfl, ?_, fun z => absurd z (by decide)⟩
                  have ehw17 : b17 = 1 := by omega
                  rw [ehw17] at hw17
                  have hw17n : wD (A 18) (F 5) IFF (0, F 6) = (0, a17) := hw17
                  have ehw18 : b18 = 1 := by omega
                  rw [ehw18] at hw18
                  have hw18n : wD (A 18) (F 5) YY (0, a17) = (0, a18) := hw18
                  have ehw23 : b23 = 1 := by omega
                  rw [ehw23] at hw23
                  have hw23n : wD (A 18) (F 5) EAR (0, a18) = (0, a23) := hw23
                  have ehw24 : b24 = 0 := by omega
                  rw [ehw24] at hw24
                  have hw24n : dG (A 18) (F 5) 4 (0, a23 + 1) = ((1, a24), v24) := hw24
                  have hYe : eE (A 18) (F 5) 121 (0, a17) = (0, a18) := hw18n
                  have e2 : t2 (A 18) (F 5) (0, F 6) = ((0, a23), 0) := by
                    unfold t2
                    rw [hw17n]
                    rw [if_pos rfl]
                    unfold fD
                    (try dsimp only)
                    rw [if_neg (by omega), hYe]
                    rw [if_pos ⟨rfl, by (try dsimp only); omega⟩, hw23n]
                  have e3 : t3 (A 18) (F 5) (0, F 6) = (0, a23 + 1) := by
                    unfold t3
                    rw [e2]
                    rw [if_pos ⟨rfl, by (try dsimp only); omega⟩]
                  have e4 : dG (A 18) (F 5) 4 (t3 (A 18) (F 5) (0, F 6)) = ((1, a24), v24) := by
                    rw [e3]
                    exact hw24n
                  have eS : tS (A 18) (F 5) (0, F 6) = (1, a24) := by
                    unfold tS
                    rw [if_pos ⟨rfl, by (try dsimp only); omega⟩, e4]
                  exact eS
              · refine R_s (P := True) (f' := (45, [some (vR 17), some (vR 29), some (vI x), some (vI (nx (A 18) (F 5) (a23)))], [vI 60, vI (nx (A 18) (F 5) (a23))], LAY (u (u (u A 36 (A 36)) 37 (A 37)) 35 (wr (A 35) x 1)) (u (u F 7 (F 7)) 6 a23), 0, 0)) hc44 2 rfl trivial ?_
                refine R_ic (t := 56) hc44 rfl rfl (fun (c13 : nx (A 18) (F 5) (a23) = 60) => ?_) (fun (c13 : ¬ (nx (A 18) (F 5) (a23) = 60)) => ?_)
                · refine R_s (P := (0 ≤ x ∧ x < ((A 36).length : Int)) ∧ inI (a23 + 1) ∧ True) (f' := (75, [some (vR 17), some (vR 29), some (vI x), some (vI (nx (A 18) (F 5) (a23)))], [vI 4, vR 17], LAY (u (u (u A 37 (A 37)) 35 (wr (A 35) x 1)) 36 (wr (A 36) x (nx (A 18) (F 5) (a23)))) (u (u F 7 (F 7)) 6 (a23 + 1)), 0, 0)) hc44 13 rfl ⟨⟨by omega, by omega⟩, ⟨by omega, by omega⟩, trivial⟩ ?_
                  refine R_cv hc44 rfl rfl (l_numb (A := (u (u (u A 37 (A 37)) 35 (wr (A 35) x 1)) 36 (wr (A 36) x (nx (A 18) (F 5) (a23))))) (F := (u (u F 7 (F 7)) 6 (a23 + 1))) (LENS_u (LENS_u (LENS_u hL (by show (A 37).length = (A 37).length; omega)) (by show (wr (A 35) x 1).length = (A 35).length; simp only [wr_len])) (by show (wr (A 36) x (nx (A 18) (F 5) (a23))).length = (A 36).length; simp only [wr_len])) h5 ⟨by (show 0 ≤ a23 + 1); omega, by (have := nx_in (l := A 18) (n := F 5) (a := a23) (by omega)); (show a23 + 1 ≤ F 5); omega⟩ (kk := 4) (by decide) rfl) (fun r G9 hp9 => ?_)
                  obtain ⟨b25, a25, v25, rfl, rfl, hb25, hw25, p25, q25, w25⟩ := hp9
                  have p25 : 0 ≤ a25 := p25
                  have q25 : a25 ≤ F 5 := q25
                  refine R_s (f' := (78, [some (vR 17), some (vR 29), some (vI x), some (vI (nx (A 18) (F 5) (a23)))], [vI b25], LAY (u (u (u A 37 (A 37)) 35 (wr (A 35) x 1)) 36 (wr (A 36) x (nx (A 18) (F 5) (a23)))) (u (u F 6 a25) 7 v25), 0, 0)) hc44 0 rfl trivial ?_
                  refine R_if (t := 83) hc44 rfl rfl (fun (c14 : ¬ b25 = 0) => ?_) (fun (c14 : ¬ (¬ b25 = 0)) => ?_)
                  · refine R_s (P := (0 ≤ x ∧ x < ((A 37).length : Int)) ∧ True) (f' := (94, [some (vR 17), some (vR 29), some (vI x), some (vI (nx (A 18) (F 5) (a23)))], [vI 1], LAY (u (u (u A 35 (wr (A 35) x 1)) 36 (wr (A 36) x (nx (A 18) (F 5) (a23)))) 37 (wr (A 37) x v25)) (u (u F 6 a25) 7 v25), 0, 0)) hc44 7 rfl ⟨⟨by omega, by omega⟩, trivial⟩ ?_
                    refine R_retz hc44 rfl rfl (Or.inr rfl) ⟨1, wr (A 35) x 1, wr (A 36) x (nx (A 18) (F 5) (a23)), wr (A 37) x v25, a25, v25, rfl, rfl, (by (try simp only [wr_len]); omega), (by (try simp only [wr_len]); omega), (by (try simp only [wr_len]); omega), by decide, by omega, by first | omega | (have := nx_in (l := A 18) (n := F 5) (a := F 6) (by omega); omega), fun q hq => by rw [rd_wr_n (by omega) (by omega) (by omega)], fun q hq => by rw [rd_wr_n (by omega) (by omega) (by omega)], fun q hq => by rw [rd_wr_n (by omega) (by omega) (by omega)], ?_⟩
                    have ehw17 : b17 = 1 := by omega
                    rw [ehw17] at hw17
                    have hw17n : wD (A 18) (F 5) IFF (0, F 6) = (0, a17) := hw17
                    have ehw18 : b18 = 1 := by omega
                    rw [ehw18] at hw18
                    have hw18n : wD (A 18) (F 5) YY (0, a17) = (0, a18) := hw18
                    have ehw23 : b23 = 1 := by omega
                    rw [ehw23] at hw23
                    have hw23n : wD (A 18) (F 5) EAR (0, a18) = (0, a23) := hw23
                    have ehw25 : b25 = 1 := by omega
                    rw [ehw25] at hw25
                    have hw25n : dG (A 18) (F 5) 4 (0, a23 + 1) = ((0, a25), v25) := hw25
                    have hYe : eE (A 18) (F 5) 121 (0, a17) = (0, a18) := hw18n
                    have e2 : t2 (A 18) (F 5) (0, F 6) = ((0, a23), 0) := by
                      unfold t2
                      rw [hw17n]
                      rw [if_pos rfl]
                      unfold fD
                      (try dsimp only)
                      rw [if_neg (by omega), hYe]
                      rw [if_pos ⟨rfl, by (try dsimp only); omega⟩, hw23n]
                    have e3 : t3 (A 18) (F 5) (0, F 6) = (0, a23 + 1) := by
                      unfold t3
                      rw [e2]
                      rw [if_pos ⟨rfl, by (try dsimp only); omega⟩]
                    have e4 : dG (A 18) (F 5) 4 (t3 (A 18) (F 5) (0, F 6)) = ((0, a25), v25) := by
                      rw [e3]
                      exact hw25n
                    have eS : tS (A 18) (F 5) (0, F 6) = (0, a25) := by
                      unfold tS
                      rw [if_pos ⟨rfl, by (try dsimp only); omega⟩, e4]
                    have eF : tF (A 18) (F 5) (0, F 6) = 0 := by
                      unfold tF
                      rw [if_pos ⟨rfl, by (try dsimp only); omega⟩, e2]
                    have eG : tG (A 18) (F 5) (0, F 6) = nx (A 18) (F 5) (a23) := by
                      unfold tG
                      rw [e2]
                    have eH : tH (A 18) (F 5) (0, F 6) = v25 := by
                      unfold tH
                      rw [e4]
                    refine ⟨eS, fun _ => ⟨?_, .inr ⟨?_, ?_⟩⟩⟩
                    · rw [eF, ← ex, rd_wr_s (by omega) (by (try simp only [wr_len]); omega)]
                      decide
                    · rw [eG, ← ex, rd_wr_s (by omega) (by (try simp only [wr_len]); omega)]
                    · rw [eH, ← ex, rd_wr_s (by omega) (by (try simp only [wr_len]); omega)]
                  · refine R_s (P := True) (f' := (82, [some (vR 17), some (vR 29), some (vI x), some (vI (nx (A 18) (F 5) (a23)))], [vI 0], LAY (u (u (u A 37 (A 37)) 35 (wr (A 35) x 1)) 36 (wr (A 36) x (nx (A 18) (F 5) (a23)))) (u (u F 6 a25) 7 v25), 0, 0)) hc44 1 rfl trivial ?_
                    refine R_retz hc44 rfl rfl (Or.inl rfl) ⟨0, wr (A 35) x 1, wr (A 36) x (nx (A 18) (F 5) (a23)), A 37, a25, v25, rfl, rfl, (by (try simp only [wr_len]); omega), (by (try simp only [wr_len]); omega), (by (try simp only [wr_len]); omega), by decide, by omega, by first | omega | (have := nx_in (l := A 18) (n := F 5) (a := F 6) (by omega); omega), fun q hq => by rw [rd_wr_n (by omega) (by omega) (by omega)], fun q hq => by rw [rd_wr_n (by omega) (by omega) (by omega)], fun _ _ => rfl, ?_, fun z => absurd z (by decide)⟩
                    have ehw17 : b17 = 1 := by omega
                    rw [ehw17] at hw17
                    have hw17n : wD (A 18) (F 5) IFF (0, F 6) = (0, a17) := hw17
                    have ehw18 : b18 = 1 := by omega
                    rw [ehw18] at hw18
                    have hw18n : wD (A 18) (F 5) YY (0, a17) = (0, a18) := hw18
                    have ehw23 : b23 = 1 := by omega
                    rw [ehw23] at hw23
                    have hw23n : wD (A 18) (F 5) EAR (0, a18) = (0, a23) := hw23
                    have ehw25 : b25 = 0 := by omega
                    rw [ehw25] at hw25
                    have hw25n : dG (A 18) (F 5) 4 (0, a23 + 1) = ((1, a25), v25) := hw25
                    have hYe : eE (A 18) (F 5) 121 (0, a17) = (0, a18) := hw18n
                    have e2 : t2 (A 18) (F 5) (0, F 6) = ((0, a23), 0) := by
                      unfold t2
                      rw [hw17n]
                      rw [if_pos rfl]
                      unfold fD
                      (try dsimp only)
                      rw [if_neg (by omega), hYe]
                      rw [if_pos ⟨rfl, by (try dsimp only); omega⟩, hw23n]
                    have e3 : t3 (A 18) (F 5) (0, F 6) = (0, a23 + 1) := by
                      unfold t3
                      rw [e2]
                      rw [if_pos ⟨rfl, by (try dsimp only); omega⟩]
                    have e4 : dG (A 18) (F 5) 4 (t3 (A 18) (F 5) (0, F 6)) = ((1, a25), v25) := by
                      rw [e3]
                      exact hw25n
                    have eS : tS (A 18) (F 5) (0, F 6) = (1, a25) := by
                      unfold tS
                      rw [if_pos ⟨rfl, by (try dsimp only); omega⟩, e4]
                    exact eS
                · refine R_s (P := True) (f' := (51, [some (vR 17), some (vR 29), some (vI x), some (vI (nx (A 18) (F 5) (a23)))], [vI 62, vI (nx (A 18) (F 5) (a23))], LAY (u (u (u A 36 (A 36)) 37 (A 37)) 35 (wr (A 35) x 1)) (u (u F 7 (F 7)) 6 a23), 0, 0)) hc44 2 rfl trivial ?_
                  refine R_ic (t := 56) hc44 rfl rfl (fun (c15 : nx (A 18) (F 5) (a23) = 62) => ?_) (fun (c15 : ¬ (nx (A 18) (F 5) (a23) = 62)) => ?_)
                  · refine R_s (P := (0 ≤ x ∧ x < ((A 36).length : Int)) ∧ inI (a23 + 1) ∧ True) (f' := (75, [some (vR 17), some (vR 29), some (vI x), some (vI (nx (A 18) (F 5) (a23)))], [vI 4, vR 17], LAY (u (u (u A 37 (A 37)) 35 (wr (A 35) x 1)) 36 (wr (A 36) x (nx (A 18) (F 5) (a23)))) (u (u F 7 (F 7)) 6 (a23 + 1)), 0, 0)) hc44 13 rfl ⟨⟨by omega, by omega⟩, ⟨by omega, by omega⟩, trivial⟩ ?_
                    refine R_cv hc44 rfl rfl (l_numb (A := (u (u (u A 37 (A 37)) 35 (wr (A 35) x 1)) 36 (wr (A 36) x (nx (A 18) (F 5) (a23))))) (F := (u (u F 7 (F 7)) 6 (a23 + 1))) (LENS_u (LENS_u (LENS_u hL (by show (A 37).length = (A 37).length; omega)) (by show (wr (A 35) x 1).length = (A 35).length; simp only [wr_len])) (by show (wr (A 36) x (nx (A 18) (F 5) (a23))).length = (A 36).length; simp only [wr_len])) h5 ⟨by (show 0 ≤ a23 + 1); omega, by (have := nx_in (l := A 18) (n := F 5) (a := a23) (by omega)); (show a23 + 1 ≤ F 5); omega⟩ (kk := 4) (by decide) rfl) (fun r G9 hp9 => ?_)
                    obtain ⟨b26, a26, v26, rfl, rfl, hb26, hw26, p26, q26, w26⟩ := hp9
                    have p26 : 0 ≤ a26 := p26
                    have q26 : a26 ≤ F 5 := q26
                    refine R_s (f' := (78, [some (vR 17), some (vR 29), some (vI x), some (vI (nx (A 18) (F 5) (a23)))], [vI b26], LAY (u (u (u A 37 (A 37)) 35 (wr (A 35) x 1)) 36 (wr (A 36) x (nx (A 18) (F 5) (a23)))) (u (u F 6 a26) 7 v26), 0, 0)) hc44 0 rfl trivial ?_
                    refine R_if (t := 83) hc44 rfl rfl (fun (c16 : ¬ b26 = 0) => ?_) (fun (c16 : ¬ (¬ b26 = 0)) => ?_)
                    · refine R_s (P := (0 ≤ x ∧ x < ((A 37).length : Int)) ∧ True) (f' := (94, [some (vR 17), some (vR 29), some (vI x), some (vI (nx (A 18) (F 5) (a23)))], [vI 1], LAY (u (u (u A 35 (wr (A 35) x 1)) 36 (wr (A 36) x (nx (A 18) (F 5) (a23)))) 37 (wr (A 37) x v26)) (u (u F 6 a26) 7 v26), 0, 0)) hc44 7 rfl ⟨⟨by omega, by omega⟩, trivial⟩ ?_
                      refine R_retz hc44 rfl rfl (Or.inr rfl) ⟨1, wr (A 35) x 1, wr (A 36) x (nx (A 18) (F 5) (a23)), wr (A 37) x v26, a26, v26, rfl, rfl, (by (try simp only [wr_len]); omega), (by (try simp only [wr_len]); omega), (by (try simp only [wr_len]); omega), by decide, by omega, by first | omega | (have := nx_in (l := A 18) (n := F 5) (a := F 6) (by omega); omega), fun q hq => by rw [rd_wr_n (by omega) (by omega) (by omega)], fun q hq => by rw [rd_wr_n (by omega) (by omega) (by omega)], fun q hq => by rw [rd_wr_n (by omega) (by omega) (by omega)], ?_⟩
                      have ehw17 : b17 = 1 := by omega
                      rw [ehw17] at hw17
                      have hw17n : wD (A 18) (F 5) IFF (0, F 6) = (0, a17) := hw17
                      have ehw18 : b18 = 1 := by omega
                      rw [ehw18] at hw18
                      have hw18n : wD (A 18) (F 5) YY (0, a17) = (0, a18) := hw18
                      have ehw23 : b23 = 1 := by omega
                      rw [ehw23] at hw23
                      have hw23n : wD (A 18) (F 5) EAR (0, a18) = (0, a23) := hw23
                      have ehw26 : b26 = 1 := by omega
                      rw [ehw26] at hw26
                      have hw26n : dG (A 18) (F 5) 4 (0, a23 + 1) = ((0, a26), v26) := hw26
                      have hYe : eE (A 18) (F 5) 121 (0, a17) = (0, a18) := hw18n
                      have e2 : t2 (A 18) (F 5) (0, F 6) = ((0, a23), 0) := by
                        unfold t2
                        rw [hw17n]
                        rw [if_pos rfl]
                        unfold fD
                        (try dsimp only)
                        rw [if_neg (by omega), hYe]
                        rw [if_pos ⟨rfl, by (try dsimp only); omega⟩, hw23n]
                      have e3 : t3 (A 18) (F 5) (0, F 6) = (0, a23 + 1) := by
                        unfold t3
                        rw [e2]
                        rw [if_pos ⟨rfl, by (try dsimp only); omega⟩]
                      have e4 : dG (A 18) (F 5) 4 (t3 (A 18) (F 5) (0, F 6)) = ((0, a26), v26) := by
                        rw [e3]
                        exact hw26n
                      have eS : tS (A 18) (F 5) (0, F 6) = (0, a26) := by
                        unfold tS
                        rw [if_pos ⟨rfl, by (try dsimp only); omega⟩, e4]
                      have eF : tF (A 18) (F 5) (0, F 6) = 0 := by
                        unfold tF
                        rw [if_pos ⟨rfl, by (try dsimp only); omega⟩, e2]
                      have eG : tG (A 18) (F 5) (0, F 6) = nx (A 18) (F 5) (a23) := by
                        unfold tG
                        rw [e2]
                      have eH : tH (A 18) (F 5) (0, F 6) = v26 := by
                        unfold tH
                        rw [e4]
                      refine ⟨eS, fun _ => ⟨?_, .inr ⟨?_, ?_⟩⟩⟩
                      · rw [eF, ← ex, rd_wr_s (by omega) (by (try simp only [wr_len]); omega)]
                        decide
                      · rw [eG, ← ex, rd_wr_s (by omega) (by (try simp only [wr_len]); omega)]
                      · rw [eH, ← ex, rd_wr_s (by omega) (by (try simp only [wr_len]); omega)]
                    · refine R_s (P := True) (f' := (82, [some (vR 17), some (vR 29), some (vI x), some (vI (nx (A 18) (F 5) (a23)))], [vI 0], LAY (u (u (u A 37 (A 37)) 35 (wr (A 35) x 1)) 36 (wr (A 36) x (nx (A 18) (F 5) (a23)))) (u (u F 6 a26) 7 v26), 0, 0)) hc44 1 rfl trivial ?_
                      refine R_retz hc44 rfl rfl (Or.inl rfl) ⟨0, wr (A 35) x 1, wr (A 36) x (nx (A 18) (F 5) (a23)), A 37, a26, v26, rfl, rfl, (by (try simp only [wr_len]); omega), (by (try simp only [wr_len]); omega), (by (try simp only [wr_len]); omega), by decide, by omega, by first | omega | (have := nx_in (l := A 18) (n := F 5) (a := F 6) (by omega); omega), fun q hq => by rw [rd_wr_n (by omega) (by omega) (by omega)], fun q hq => by rw [rd_wr_n (by omega) (by omega) (by omega)], fun _ _ => rfl, ?_, fun z => absurd z (by decide)⟩
                      have ehw17 : b17 = 1 := by omega
                      rw [ehw17] at hw17
                      have hw17n : wD (A 18) (F 5) IFF (0, F 6) = (0, a17) := hw17
                      have ehw18 : b18 = 1 := by omega
                      rw [ehw18] at hw18
                      have hw18n : wD (A 18) (F 5) YY (0, a17) = (0, a18) := hw18
                      have ehw23 : b23 = 1 := by omega
                      rw [ehw23] at hw23
                      have hw23n : wD (A 18) (F 5) EAR (0, a18) = (0, a23) := hw23
                      have ehw26 : b26 = 0 := by omega
                      rw [ehw26] at hw26
                      have hw26n : dG (A 18) (F 5) 4 (0, a23 + 1) = ((1, a26), v26) := hw26
                      have hYe : eE (A 18) (F 5) 121 (0, a17) = (0, a18) := hw18n
                      have e2 : t2 (A 18) (F 5) (0, F 6) = ((0, a23), 0) := by
                        unfold t2
                        rw [hw17n]
                        rw [if_pos rfl]
                        unfold fD
                        (try dsimp only)
                        rw [if_neg (by omega), hYe]
                        rw [if_pos ⟨rfl, by (try dsimp only); omega⟩, hw23n]
                      have e3 : t3 (A 18) (F 5) (0, F 6) = (0, a23 + 1) := by
                        unfold t3
                        rw [e2]
                        rw [if_pos ⟨rfl, by (try dsimp only); omega⟩]
                      have e4 : dG (A 18) (F 5) 4 (t3 (A 18) (F 5) (0, F 6)) = ((1, a26), v26) := by
                        rw [e3]
                        exact hw26n
                      have eS : tS (A 18) (F 5) (0, F 6) = (1, a26) := by
                        unfold tS
                        rw [if_pos ⟨rfl, by (try dsimp only); omega⟩, e4]
                      exact eS
                  · refine R_s (P := True) (f' := (55, [some (vR 17), some (vR 29), some (vI x), some (vI (nx (A 18) (F 5) (a23)))], [vI 0], LAY (u (u (u A 36 (A 36)) 37 (A 37)) 35 (wr (A 35) x 1)) (u (u F 7 (F 7)) 6 a23), 0, 0)) hc44 1 rfl trivial ?_
                    refine R_retz hc44 rfl rfl (Or.inl rfl) ⟨0, wr (A 35) x 1, A 36, A 37, a23, F 7, rfl, rfl, (by (try simp only [wr_len]); omega), (by (try simp only [wr_len]); omega), (by (try simp only [wr_len]); omega), by decide, by omega, by first | omega | (have := nx_in (l := A 18) (n := F 5) (a := F 6) (by omega); omega), fun q hq => by rw [rd_wr_n (by omega) (by omega) (by omega)], fun _ _ => rfl, fun _ _ => rfl, ?_, fun z => absurd z (by decide)⟩
                    have ehw17 : b17 = 1 := by omega
                    rw [ehw17] at hw17
                    have hw17n : wD (A 18) (F 5) IFF (0, F 6) = (0, a17) := hw17
                    have ehw18 : b18 = 1 := by omega
                    rw [ehw18] at hw18
                    have hw18n : wD (A 18) (F 5) YY (0, a17) = (0, a18) := hw18
                    have ehw23 : b23 = 1 := by omega
                    rw [ehw23] at hw23
                    have hw23n : wD (A 18) (F 5) EAR (0, a18) = (0, a23) := hw23
                    have hYe : eE (A 18) (F 5) 121 (0, a17) = (0, a18) := hw18n
                    have e2 : t2 (A 18) (F 5) (0, F 6) = ((0, a23), 0) := by
                      unfold t2
                      rw [hw17n]
                      rw [if_pos rfl]
                      unfold fD
                      (try dsimp only)
                      rw [if_neg (by omega), hYe]
                      rw [if_pos ⟨rfl, by (try dsimp only); omega⟩, hw23n]
                    have e3 : t3 (A 18) (F 5) (0, F 6) = (1, a23) := by
                      unfold t3
                      rw [e2]
                      rw [if_neg (fun z => by have := z.2; (try dsimp only at this); omega)]
                    have e4 : dG (A 18) (F 5) 4 (t3 (A 18) (F 5) (0, F 6)) = ((1, a23), 0) := by rw [e3, dG_f]
                    have eS : tS (A 18) (F 5) (0, F 6) = (1, a23) := by
                      unfold tS
                      rw [if_pos ⟨rfl, by (try dsimp only); omega⟩, e4]
                    exact eS
            · refine R_s (P := True) (f' := (30, [some (vR 17), some (vR 29), some (vI x), none], [vI 0], LAY (u (u (u A 36 (A 36)) 37 (A 37)) 35 (wr (A 35) x 1)) (u (u F 7 (F 7)) 6 a23), 0, 0)) hc44 1 rfl trivial ?_
              refine R_retz hc44 rfl rfl (Or.inl rfl) ⟨0, wr (A 35) x 1, A 36, A 37, a23, F 7, rfl, rfl, (by (try simp only [wr_len]); omega), (by (try simp only [wr_len]); omega), (by (try simp only [wr_len]); omega), by decide, by omega, by first | omega | (have := nx_in (l := A 18) (n := F 5) (a := F 6) (by omega); omega), fun q hq => by rw [rd_wr_n (by omega) (by omega) (by omega)], fun _ _ => rfl, fun _ _ => rfl, ?_, fun z => absurd z (by decide)⟩
              have ehw17 : b17 = 1 := by omega
              rw [ehw17] at hw17
              have hw17n : wD (A 18) (F 5) IFF (0, F 6) = (0, a17) := hw17
              have ehw18 : b18 = 1 := by omega
              rw [ehw18] at hw18
              have hw18n : wD (A 18) (F 5) YY (0, a17) = (0, a18) := hw18
              have ehw23 : b23 = 0 := by omega
              rw [ehw23] at hw23
              have hw23n : wD (A 18) (F 5) EAR (0, a18) = (1, a23) := hw23
              have hYe : eE (A 18) (F 5) 121 (0, a17) = (0, a18) := hw18n
              have e2 : t2 (A 18) (F 5) (0, F 6) = ((1, a23), 0) := by
                unfold t2
                rw [hw17n]
                rw [if_pos rfl]
                unfold fD
                (try dsimp only)
                rw [if_neg (by omega), hYe]
                rw [if_pos ⟨rfl, by (try dsimp only); omega⟩, hw23n]
              have e3 : t3 (A 18) (F 5) (0, F 6) = (1, a23) := by
                unfold t3
                rw [e2]
                rw [if_neg (fun z => absurd (show (1 : Int) = 0 from z.1) (by decide))]
              have e4 : dG (A 18) (F 5) 4 (t3 (A 18) (F 5) (0, F 6)) = ((1, a23), 0) := by rw [e3, dG_f]
              have eS : tS (A 18) (F 5) (0, F 6) = (1, a23) := by
                unfold tS
                rw [if_pos ⟨rfl, by (try dsimp only); omega⟩, e4]
              exact eS
        · refine R_s (P := True) (f' := (33, [some (vR 17), some (vR 29), some (vI x), none], [vI 0], LAY (u (u (u A 35 (A 35)) 36 (A 36)) 37 (A 37)) (u (u F 7 (F 7)) 6 a18), 0, 0)) hc45 1 rfl trivial ?_
          refine R_retz hc45 rfl rfl (Or.inl rfl) ?_
          refine R_s (f' := (26, [some (vR 17), some (vR 29), some (vI x), none], [vI 0], LAY (u (u (u A 35 (A 35)) 36 (A 36)) 37 (A 37)) (u (u F 7 (F 7)) 6 a18), 0, 0)) hc44 0 rfl trivial ?_
          refine R_if (t := 31) hc44 rfl rfl (fun (z : ¬ 0 = 0) => absurd z (by decide)) (fun (_ : ¬ (¬ 0 = 0)) => ?_)
          refine R_s (P := True) (f' := (30, [some (vR 17), some (vR 29), some (vI x), none], [vI 0], LAY (u (u (u A 35 (A 35)) 36 (A 36)) 37 (A 37)) (u (u F 7 (F 7)) 6 a18), 0, 0)) hc44 1 rfl trivial ?_
          refine R_retz hc44 rfl rfl (Or.inl rfl) ⟨0, A 35, A 36, A 37, a18, F 7, rfl, rfl, (by (try simp only [wr_len]); omega), (by (try simp only [wr_len]); omega), (by (try simp only [wr_len]); omega), by decide, by omega, by first | omega | (have := nx_in (l := A 18) (n := F 5) (a := F 6) (by omega); omega), fun _ _ => rfl, fun _ _ => rfl, fun _ _ => rfl, ?_, fun z => absurd z (by decide)⟩
          have ehw17 : b17 = 1 := by omega
          rw [ehw17] at hw17
          have hw17n : wD (A 18) (F 5) IFF (0, F 6) = (0, a17) := hw17
          have ehw18 : b18 = 0 := by omega
          rw [ehw18] at hw18
          have hw18n : wD (A 18) (F 5) YY (0, a17) = (1, a18) := hw18
          have hYe : eE (A 18) (F 5) 121 (0, a17) = (1, a18) := hw18n
          have e2 : t2 (A 18) (F 5) (0, F 6) = ((1, a18), 1) := by
            unfold t2
            rw [hw17n]
            rw [if_pos rfl]
            unfold fD
            (try dsimp only)
            rw [if_neg (by omega), hYe]
            rw [if_neg (fun z => absurd (show (1 : Int) = 0 from z.1) (by decide)), wD_f]
          have e3 : t3 (A 18) (F 5) (0, F 6) = (1, a18) := by
            unfold t3
            rw [e2]
            rw [if_neg (fun z => absurd (show (1 : Int) = 0 from z.1) (by decide))]
          have e4 : dG (A 18) (F 5) 4 (t3 (A 18) (F 5) (0, F 6)) = ((1, a18), 0) := by rw [e3, dG_f]
          have eS : tS (A 18) (F 5) (0, F 6) = (1, a18) := by
            unfold tS
            rw [if_pos ⟨rfl, by (try dsimp only); omega⟩, e4]
          exact eS
      · refine R_s (P := (0 ≤ x ∧ x < ((A 35).length : Int)) ∧ True) (f' := (19, [some (vR 17), some (vR 29), some (vI x), none], [vS 3, vR 17], LAY (u (u (u A 36 (A 36)) 37 (A 37)) 35 (wr (A 35) x 3)) (u (u F 7 (F 7)) 6 a17), 0, 0)) hc45 7 rfl ⟨⟨by omega, by omega⟩, trivial⟩ ?_
        refine R_cv hc45 rfl rfl (l_word3 (A := (u (u (u A 36 (A 36)) 37 (A 37)) 35 (wr (A 35) x 3))) (F := (u (u F 7 (F 7)) 6 a17)) (LENS_u (LENS_u (LENS_u hL (by show (A 36).length = (A 36).length; omega)) (by show (A 37).length = (A 37).length; omega)) (by show (wr (A 35) x 3).length = (A 35).length; simp only [wr_len])) h5 ⟨by (show 0 ≤ a17); omega, by (show a17 ≤ F 5); omega⟩) (fun r G9 hp9 => ?_)
        obtain ⟨b27, a27, rfl, rfl, hb27, hw27, p27, q27⟩ := hp9
        have p27 : 0 ≤ a27 := p27
        have q27 : a27 ≤ F 5 := q27
        refine R_s (f' := (22, [some (vR 17), some (vR 29), some (vI x), none], [vI b27], LAY (u (u (u A 36 (A 36)) 37 (A 37)) 35 (wr (A 35) x 3)) (u (u F 7 (F 7)) 6 a27), 0, 0)) hc45 0 rfl trivial ?_
        refine R_retz hc45 rfl rfl (by omega) ?_
        refine R_s (f' := (26, [some (vR 17), some (vR 29), some (vI x), none], [vI b27], LAY (u (u (u A 36 (A 36)) 37 (A 37)) 35 (wr (A 35) x 3)) (u (u F 7 (F 7)) 6 a27), 0, 0)) hc44 0 rfl trivial ?_
        refine R_if (t := 31) hc44 rfl rfl (fun (c10 : ¬ b27 = 0) => ?_) (fun (c10 : ¬ (¬ b27 = 0)) => ?_)
        · refine R_s (P := True) (f' := (32, [some (vR 17), some (vR 29), some (vI x), none], [vR 17], LAY (u (u (u A 36 (A 36)) 37 (A 37)) 35 (wr (A 35) x 3)) (u (u F 7 (F 7)) 6 a27), 0, 0)) hc44 1 rfl trivial ?_
          refine R_cv hc44 rfl rfl (l_next (A := (u (u (u A 36 (A 36)) 37 (A 37)) 35 (wr (A 35) x 3))) (F := (u (u F 7 (F 7)) 6 a27)) (LENS_u (LENS_u (LENS_u hL (by show (A 36).length = (A 36).length; omega)) (by show (A 37).length = (A 37).length; omega)) (by show (wr (A 35) x 3).length = (A 35).length; simp only [wr_len])) h5 ⟨by (show 0 ≤ a27); omega, by (show a27 ≤ F 5); omega⟩) (fun r G9 hp9 => ?_)
          obtain ⟨e1, rfl⟩ := hp9
          have e2 : r = some (vI (nx (A 18) (F 5) (a27))) := e1
          clear e1
          subst e2
          refine R_s (f' := (35, [some (vR 17), some (vR 29), some (vI x), none], [vI (nx (A 18) (F 5) (a27))], LAY (u (u (u A 36 (A 36)) 37 (A 37)) 35 (wr (A 35) x 3)) (u (u F 7 (F 7)) 6 a27), 0, 0)) hc44 0 rfl trivial ?_
          refine R_s (P := True) (f' := (39, [some (vR 17), some (vR 29), some (vI x), some (vI (nx (A 18) (F 5) (a27)))], [vI 61, vI (nx (A 18) (F 5) (a27))], LAY (u (u (u A 36 (A 36)) 37 (A 37)) 35 (wr (A 35) x 3)) (u (u F 7 (F 7)) 6 a27), 0, 0)) hc44 3 rfl trivial ?_
          refine R_ic (t := 56) hc44 rfl rfl (fun (c11 : nx (A 18) (F 5) (a27) = 61) => ?_) (fun (c11 : ¬ (nx (A 18) (F 5) (a27) = 61)) => ?_)
          · refine R_s (P := (0 ≤ x ∧ x < ((A 36).length : Int)) ∧ inI (a27 + 1) ∧ True) (f' := (75, [some (vR 17), some (vR 29), some (vI x), some (vI (nx (A 18) (F 5) (a27)))], [vI 4, vR 17], LAY (u (u (u A 37 (A 37)) 35 (wr (A 35) x 3)) 36 (wr (A 36) x (nx (A 18) (F 5) (a27)))) (u (u F 7 (F 7)) 6 (a27 + 1)), 0, 0)) hc44 13 rfl ⟨⟨by omega, by omega⟩, ⟨by omega, by omega⟩, trivial⟩ ?_
            refine R_cv hc44 rfl rfl (l_numb (A := (u (u (u A 37 (A 37)) 35 (wr (A 35) x 3)) 36 (wr (A 36) x (nx (A 18) (F 5) (a27))))) (F := (u (u F 7 (F 7)) 6 (a27 + 1))) (LENS_u (LENS_u (LENS_u hL (by show (A 37).length = (A 37).length; omega)) (by show (wr (A 35) x 3).length = (A 35).length; simp only [wr_len])) (by show (wr (A 36) x (nx (A 18) (F 5) (a27))).length = (A 36).length; simp only [wr_len])) h5 ⟨by (show 0 ≤ a27 + 1); omega, by (have := nx_in (l := A 18) (n := F 5) (a := a27) (by omega)); (show a27 + 1 ≤ F 5); omega⟩ (kk := 4) (by decide) rfl) (fun r G9 hp9 => ?_)
            obtain ⟨b28, a28, v28, rfl, rfl, hb28, hw28, p28, q28, w28⟩ := hp9
            have p28 : 0 ≤ a28 := p28
            have q28 : a28 ≤ F 5 := q28
            refine R_s (f' := (78, [some (vR 17), some (vR 29), some (vI x), some (vI (nx (A 18) (F 5) (a27)))], [vI b28], LAY (u (u (u A 37 (A 37)) 35 (wr (A 35) x 3)) 36 (wr (A 36) x (nx (A 18) (F 5) (a27)))) (u (u F 6 a28) 7 v28), 0, 0)) hc44 0 rfl trivial ?_
            refine R_if (t := 83) hc44 rfl rfl (fun (c12 : ¬ b28 = 0) => ?_) (fun (c12 : ¬ (¬ b28 = 0)) => ?_)
            · refine R_s (P := (0 ≤ x ∧ x < ((A 37).length : Int)) ∧ True) (f' := (94, [some (vR 17), some (vR 29), some (vI x), some (vI (nx (A 18) (F 5) (a27)))], [vI 1], LAY (u (u (u A 35 (wr (A 35) x 3)) 36 (wr (A 36) x (nx (A 18) (F 5) (a27)))) 37 (wr (A 37) x v28)) (u (u F 6 a28) 7 v28), 0, 0)) hc44 7 rfl ⟨⟨by omega, by omega⟩, trivial⟩ ?_
              refine R_retz hc44 rfl rfl (Or.inr rfl) ⟨1, wr (A 35) x 3, wr (A 36) x (nx (A 18) (F 5) (a27)), wr (A 37) x v28, a28, v28, rfl, rfl, (by (try simp only [wr_len]); omega), (by (try simp only [wr_len]); omega), (by (try simp only [wr_len]); omega), by decide, by omega, by first | omega | (have := nx_in (l := A 18) (n := F 5) (a := F 6) (by omega); omega), fun q hq => by rw [rd_wr_n (by omega) (by omega) (by omega)], fun q hq => by rw [rd_wr_n (by omega) (by omega) (by omega)], fun q hq => by rw [rd_wr_n (by omega) (by omega) (by omega)], ?_⟩
              have ehw17 : b17 = 1 := by omega
              rw [ehw17] at hw17
              have hw17n : wD (A 18) (F 5) IFF (0, F 6) = (0, a17) := hw17
              have ehw27 : b27 = 1 := by omega
              rw [ehw27] at hw27
              have hw27n : wD (A 18) (F 5) ALIVE (0, a17) = (0, a27) := hw27
              have ehw28 : b28 = 1 := by omega
              rw [ehw28] at hw28
              have hw28n : dG (A 18) (F 5) 4 (0, a27 + 1) = ((0, a28), v28) := hw28
              have e2 : t2 (A 18) (F 5) (0, F 6) = ((0, a27), 2) := by
                unfold t2
                rw [hw17n]
                rw [if_pos rfl]
                unfold fD
                (try dsimp only)
                rw [if_pos (by omega), hw27n]
              have e3 : t3 (A 18) (F 5) (0, F 6) = (0, a27 + 1) := by
                unfold t3
                rw [e2]
                rw [if_pos ⟨rfl, by (try dsimp only); omega⟩]
              have e4 : dG (A 18) (F 5) 4 (t3 (A 18) (F 5) (0, F 6)) = ((0, a28), v28) := by
                rw [e3]
                exact hw28n
              have eS : tS (A 18) (F 5) (0, F 6) = (0, a28) := by
                unfold tS
                rw [if_pos ⟨rfl, by (try dsimp only); omega⟩, e4]
              have eF : tF (A 18) (F 5) (0, F 6) = 2 := by
                unfold tF
                rw [if_pos ⟨rfl, by (try dsimp only); omega⟩, e2]
              have eG : tG (A 18) (F 5) (0, F 6) = nx (A 18) (F 5) (a27) := by
                unfold tG
                rw [e2]
              have eH : tH (A 18) (F 5) (0, F 6) = v28 := by
                unfold tH
                rw [e4]
              refine ⟨eS, fun _ => ⟨?_, .inr ⟨?_, ?_⟩⟩⟩
              · rw [eF, ← ex, rd_wr_s (by omega) (by (try simp only [wr_len]); omega)]
                decide
              · rw [eG, ← ex, rd_wr_s (by omega) (by (try simp only [wr_len]); omega)]
              · rw [eH, ← ex, rd_wr_s (by omega) (by (try simp only [wr_len]); omega)]
            · refine R_s (P := True) (f' := (82, [some (vR 17), some (vR 29), some (vI x), some (vI (nx (A 18) (F 5) (a27)))], [vI 0], LAY (u (u (u A 37 (A 37)) 35 (wr (A 35) x 3)) 36 (wr (A 36) x (nx (A 18) (F 5) (a27)))) (u (u F 6 a28) 7 v28), 0, 0)) hc44 1 rfl trivial ?_
              refine R_retz hc44 rfl rfl (Or.inl rfl) ⟨0, wr (A 35) x 3, wr (A 36) x (nx (A 18) (F 5) (a27)), A 37, a28, v28, rfl, rfl, (by (try simp only [wr_len]); omega), (by (try simp only [wr_len]); omega), (by (try simp only [wr_len]); omega), by decide, by omega, by first | omega | (have := nx_in (l := A 18) (n := F 5) (a := F 6) (by omega); omega), fun q hq => by rw [rd_wr_n (by omega) (by omega) (by omega)], fun q hq => by rw [rd_wr_n (by omega) (by omega) (by omega)], fun _ _ => rfl, ?_, fun z => absurd z (by decide)⟩
              have ehw17 : b17 = 1 := by omega
              rw [ehw17] at hw17
              have hw17n : wD (A 18) (F 5) IFF (0, F 6) = (0, a17) := hw17
              have ehw27 : b27 = 1 := by omega
              rw [ehw27] at hw27
              have hw27n : wD (A 18) (F 5) ALIVE (0, a17) = (0, a27) := hw27
              have ehw28 : b28 = 0 := by omega
              rw [ehw28] at hw28
              have hw28n : dG (A 18) (F 5) 4 (0, a27 + 1) = ((1, a28), v28) := hw28
              have e2 : t2 (A 18) (F 5) (0, F 6) = ((0, a27), 2) := by
                unfold t2
                rw [hw17n]
                rw [if_pos rfl]
                unfold fD
                (try dsimp only)
                rw [if_pos (by omega), hw27n]
              have e3 : t3 (A 18) (F 5) (0, F 6) = (0, a27 + 1) := by
                unfold t3
                rw [e2]
                rw [if_pos ⟨rfl, by (try dsimp only); omega⟩]
              have e4 : dG (A 18) (F 5) 4 (t3 (A 18) (F 5) (0, F 6)) = ((1, a28), v28) := by
                rw [e3]
                exact hw28n
              have eS : tS (A 18) (F 5) (0, F 6) = (1, a28) := by
                unfold tS
                rw [if_pos ⟨rfl, by (try dsimp only); omega⟩, e4]
              exact eS
          · refine R_s (P := True) (f' := (45, [some (vR 17), some (vR 29), some (vI x), some (vI (nx (A 18) (F 5) (a27)))], [vI 60, vI (nx (A 18) (F 5) (a27))], LAY (u (u (u A 36 (A 36)) 37 (A 37)) 35 (wr (A 35) x 3)) (u (u F 7 (F 7)) 6 a27), 0, 0)) hc44 2 rfl trivial ?_
            refine R_ic (t := 56) hc44 rfl rfl (fun (c13 : nx (A 18) (F 5) (a27) = 60) => ?_) (fun (c13 : ¬ (nx (A 18) (F 5) (a27) = 60)) => ?_)
            · refine R_s (P := (0 ≤ x ∧ x < ((A 36).length : Int)) ∧ inI (a27 + 1) ∧ True) (f' := (75, [some (vR 17), some (vR 29), some (vI x), some (vI (nx (A 18) (F 5) (a27)))], [vI 4, vR 17], LAY (u (u (u A 37 (A 37)) 35 (wr (A 35) x 3)) 36 (wr (A 36) x (nx (A 18) (F 5) (a27)))) (u (u F 7 (F 7)) 6 (a27 + 1)), 0, 0)) hc44 13 rfl ⟨⟨by omega, by omega⟩, ⟨by omega, by omega⟩, trivial⟩ ?_
              refine R_cv hc44 rfl rfl (l_numb (A := (u (u (u A 37 (A 37)) 35 (wr (A 35) x 3)) 36 (wr (A 36) x (nx (A 18) (F 5) (a27))))) (F := (u (u F 7 (F 7)) 6 (a27 + 1))) (LENS_u (LENS_u (LENS_u hL (by show (A 37).length = (A 37).length; omega)) (by show (wr (A 35) x 3).length = (A 35).length; simp only [wr_len])) (by show (wr (A 36) x (nx (A 18) (F 5) (a27))).length = (A 36).length; simp only [wr_len])) h5 ⟨by (show 0 ≤ a27 + 1); omega, by (have := nx_in (l := A 18) (n := F 5) (a := a27) (by omega)); (show a27 + 1 ≤ F 5); omega⟩ (kk := 4) (by decide) rfl) (fun r G9 hp9 => ?_)
              obtain ⟨b29, a29, v29, rfl, rfl, hb29, hw29, p29, q29, w29⟩ := hp9
              have p29 : 0 ≤ a29 := p29
              have q29 : a29 ≤ F 5 := q29
              refine R_s (f' := (78, [some (vR 17), some (vR 29), some (vI x), some (vI (nx (A 18) (F 5) (a27)))], [vI b29], LAY (u (u (u A 37 (A 37)) 35 (wr (A 35) x 3)) 36 (wr (A 36) x (nx (A 18) (F 5) (a27)))) (u (u F 6 a29) 7 v29), 0, 0)) hc44 0 rfl trivial ?_
              refine R_if (t := 83) hc44 rfl rfl (fun (c14 : ¬ b29 = 0) => ?_) (fun (c14 : ¬ (¬ b29 = 0)) => ?_)
              · refine R_s (P := (0 ≤ x ∧ x < ((A 37).length : Int)) ∧ True) (f' := (94, [some (vR 17), some (vR 29), some (vI x), some (vI (nx (A 18) (F 5) (a27)))], [vI 1], LAY (u (u (u A 35 (wr (A 35) x 3)) 36 (wr (A 36) x (nx (A 18) (F 5) (a27)))) 37 (wr (A 37) x v29)) (u (u F 6 a29) 7 v29), 0, 0)) hc44 7 rfl ⟨⟨by omega, by omega⟩, trivial⟩ ?_
                refine R_retz hc44 rfl rfl (Or.inr rfl) ⟨1, wr (A 35) x 3, wr (A 36) x (nx (A 18) (F 5) (a27)), wr (A 37) x v29, a29, v29, rfl, rfl, (by (try simp only [wr_len]); omega), (by (try simp only [wr_len]); omega), (by (try simp only [wr_len]); omega), by decide, by omega, by first | omega | (have := nx_in (l := A 18) (n := F 5) (a := F 6) (by omega); omega), fun q hq => by rw [rd_wr_n (by omega) (by omega) (by omega)], fun q hq => by rw [rd_wr_n (by omega) (by omega) (by omega)], fun q hq => by rw [rd_wr_n (by omega) (by omega) (by omega)], ?_⟩
                have ehw17 : b17 = 1 := by omega
                rw [ehw17] at hw17
                have hw17n : wD (A 18) (F 5) IFF (0, F 6) = (0, a17) := hw17
                have ehw27 : b27 = 1 := by omega
                rw [ehw27] at hw27
                have hw27n : wD (A 18) (F 5) ALIVE (0, a17) = (0, a27) := hw27
                have ehw29 : b29 = 1 := by omega
                rw [ehw29] at hw29
                have hw29n : dG (A 18) (F 5) 4 (0, a27 + 1) = ((0, a29), v29) := hw29
                have e2 : t2 (A 18) (F 5) (0, F 6) = ((0, a27), 2) := by
                  unfold t2
                  rw [hw17n]
                  rw [if_pos rfl]
                  unfold fD
                  (try dsimp only)
                  rw [if_pos (by omega), hw27n]
                have e3 : t3 (A 18) (F 5) (0, F 6) = (0, a27 + 1) := by
                  unfold t3
                  rw [e2]
                  rw [if_pos ⟨rfl, by (try dsimp only); omega⟩]
                have e4 : dG (A 18) (F 5) 4 (t3 (A 18) (F 5) (0, F 6)) = ((0, a29), v29) := by
                  rw [e3]
                  exact hw29n
                have eS : tS (A 18) (F 5) (0, F 6) = (0, a29) := by
                  unfold tS
                  rw [if_pos ⟨rfl, by (try dsimp only); omega⟩, e4]
                have eF : tF (A 18) (F 5) (0, F 6) = 2 := by
                  unfold tF
                  rw [if_pos ⟨rfl, by (try dsimp only); omega⟩, e2]
                have eG : tG (A 18) (F 5) (0, F 6) = nx (A 18) (F 5) (a27) := by
                  unfold tG
                  rw [e2]
                have eH : tH (A 18) (F 5) (0, F 6) = v29 := by
                  unfold tH
                  rw [e4]
                refine ⟨eS, fun _ => ⟨?_, .inr ⟨?_, ?_⟩⟩⟩
                · rw [eF, ← ex, rd_wr_s (by omega) (by (try simp only [wr_len]); omega)]
                  decide
                · rw [eG, ← ex, rd_wr_s (by omega) (by (try simp only [wr_len]); omega)]
                · rw [eH, ← ex, rd_wr_s (by omega) (by (try simp only [wr_len]); omega)]
              · refine R_s (P := True) (f' := (82, [some (vR 17), some (vR 29), some (vI x), some (vI (nx (A 18) (F 5) (a27)))], [vI 0], LAY (u (u (u A 37 (A 37)) 35 (wr (A 35) x 3)) 36 (wr (A 36) x (nx (A 18) (F 5) (a27)))) (u (u F 6 a29) 7 v29), 0, 0)) hc44 1 rfl trivial ?_
                refine R_retz hc44 rfl rfl (Or.inl rfl) ⟨0, wr (A 35) x 3, wr (A 36) x (nx (A 18) (F 5) (a27)), A 37, a29, v29, rfl, rfl, (by (try simp only [wr_len]); omega), (by (try simp only [wr_len]); omega), (by (try simp only [wr_len]); omega), by decide, by omega, by first | omega | (have := nx_in (l := A 18) (n := F 5) (a := F 6) (by omega); omega), fun q hq => by rw [rd_wr_n (by omega) (by omega) (by omega)], fun q hq => by rw [rd_wr_n (by omega) (by omega) (by omega)], fun _ _ => rfl, ?_, fun z => absurd z (by decide)⟩
                have ehw17 : b17 = 1 := by omega
                rw [ehw17] at hw17
                have hw17n : wD (A 18) (F 5) IFF (0, F 6) = (0, a17) := hw17
                have ehw27 : b27 = 1 := by omega
                rw [ehw27] at hw27
                have hw27n : wD (A 18) (F 5) ALIVE (0, a17) = (0, a27) := hw27
                have ehw29 : b29 = 0 := by omega
                rw [ehw29] at hw29
                have hw29n : dG (A 18) (F 5) 4 (0, a27 + 1) = ((1, a29), v29) := hw29
                have e2 : t2 (A 18) (F 5) (0, F 6) = ((0, a27), 2) := by
                  unfold t2
                  rw [hw17n]
                  rw [if_pos rfl]
                  unfold fD
                  (try dsimp only)
                  rw [if_pos (by omega), hw27n]
                have e3 : t3 (A 18) (F 5) (0, F 6) = (0, a27 + 1) := by
                  unfold t3
                  rw [e2]
                  rw [if_pos ⟨rfl, by (try dsimp only); omega⟩]
                have e4 : dG (A 18) (F 5) 4 (t3 (A 18) (F 5) (0, F 6)) = ((1, a29), v29) := by
                  rw [e3]
                  exact hw29n
                have eS : tS (A 18) (F 5) (0, F 6) = (1, a29) := by
                  unfold tS
                  rw [if_pos ⟨rfl, by (try dsimp only); omega⟩, e4]
                exact eS
            · refine R_s (P := True) (f' := (51, [some (vR 17), some (vR 29), some (vI x), some (vI (nx (A 18) (F 5) (a27)))], [vI 62, vI (nx (A 18) (F 5) (a27))], LAY (u (u (u A 36 (A 36)) 37 (A 37)) 35 (wr (A 35) x 3)) (u (u F 7 (F 7)) 6 a27), 0, 0)) hc44 2 rfl trivial ?_
              refine R_ic (t := 56) hc44 rfl rfl (fun (c15 : nx (A 18) (F 5) (a27) = 62) => ?_) (fun (c15 : ¬ (nx (A 18) (F 5) (a27) = 62)) => ?_)
              · refine R_s (P := (0 ≤ x ∧ x < ((A 36).length : Int)) ∧ inI (a27 + 1) ∧ True) (f' := (75, [some (vR 17), some (vR 29), some (vI x), some (vI (nx (A 18) (F 5) (a27)))], [vI 4, vR 17], LAY (u (u (u A 37 (A 37)) 35 (wr (A 35) x 3)) 36 (wr (A 36) x (nx (A 18) (F 5) (a27)))) (u (u F 7 (F 7)) 6 (a27 + 1)), 0, 0)) hc44 13 rfl ⟨⟨by omega, by omega⟩, ⟨by omega, by omega⟩, trivial⟩ ?_
                refine R_cv hc44 rfl rfl (l_numb (A := (u (u (u A 37 (A 37)) 35 (wr (A 35) x 3)) 36 (wr (A 36) x (nx (A 18) (F 5) (a27))))) (F := (u (u F 7 (F 7)) 6 (a27 + 1))) (LENS_u (LENS_u (LENS_u hL (by show (A 37).length = (A 37).length; omega)) (by show (wr (A 35) x 3).length = (A 35).length; simp only [wr_len])) (by show (wr (A 36) x (nx (A 18) (F 5) (a27))).length = (A 36).length; simp only [wr_len])) h5 ⟨by (show 0 ≤ a27 + 1); omega, by (have := nx_in (l := A 18) (n := F 5) (a := a27) (by omega)); (show a27 + 1 ≤ F 5); omega⟩ (kk := 4) (by decide) rfl) (fun r G9 hp9 => ?_)
                obtain ⟨b30, a30, v30, rfl, rfl, hb30, hw30, p30, q30, w30⟩ := hp9
                have p30 : 0 ≤ a30 := p30
                have q30 : a30 ≤ F 5 := q30
                refine R_s (f' := (78, [some (vR 17), some (vR 29), some (vI x), some (vI (nx (A 18) (F 5) (a27)))], [vI b30], LAY (u (u (u A 37 (A 37)) 35 (wr (A 35) x 3)) 36 (wr (A 36) x (nx (A 18) (F 5) (a27)))) (u (u F 6 a30) 7 v30), 0, 0)) hc44 0 rfl trivial ?_
                refine R_if (t := 83) hc44 rfl rfl (fun (c16 : ¬ b30 = 0) => ?_) (fun (c16 : ¬ (¬ b30 = 0)) => ?_)
                · refine R_s (P := (0 ≤ x ∧ x < ((A 37).length : Int)) ∧ True) (f' := (94, [some (vR 17), some (vR 29), some (vI x), some (vI (nx (A 18) (F 5) (a27)))], [vI 1], LAY (u (u (u A 35 (wr (A 35) x 3)) 36 (wr (A 36) x (nx (A 18) (F 5) (a27)))) 37 (wr (A 37) x v30)) (u (u F 6 a30) 7 v30), 0, 0)) hc44 7 rfl ⟨⟨by omega, by omega⟩, trivial⟩ ?_
                  refine R_retz hc44 rfl rfl (Or.inr rfl) ⟨1, wr (A 35) x 3, wr (A 36) x (nx (A 18) (F 5) (a27)), wr (A 37) x v30, a30, v30, rfl, rfl, (by (try simp only [wr_len]); omega), (by (try simp only [wr_len]); omega), (by (try simp only [wr_len]); omega), by decide, by omega, by first | omega | (have := nx_in (l := A 18) (n := F 5) (a := F 6) (by omega); omega), fun q hq => by rw [rd_wr_n (by omega) (by omega) (by omega)], fun q hq => by rw [rd_wr_n (by omega) (by omega) (by omega)], fun q hq => by rw [rd_wr_n (by omega) (by omega) (by omega)], ?_⟩
                  have ehw17 : b17 = 1 := by omega
                  rw [ehw17] at hw17
                  have hw17n : wD (A 18) (F 5) IFF (0, F 6) = (0, a17) := hw17
                  have ehw27 : b27 = 1 := by omega
                  rw [ehw27] at hw27
                  have hw27n : wD (A 18) (F 5) ALIVE (0, a17) = (0, a27) := hw27
                  have ehw30 : b30 = 1 := by omega
                  rw [ehw30] at hw30
                  have hw30n : dG (A 18) (F 5) 4 (0, a27 + 1) = ((0, a30), v30) := hw30
                  have e2 : t2 (A 18) (F 5) (0, F 6) = ((0, a27), 2) := by
                    unfold t2
                    rw [hw17n]
                    rw [if_pos rfl]
                    unfold fD
                    (try dsimp only)
                    rw [if_pos (by omega), hw27n]
                  have e3 : t3 (A 18) (F 5) (0, F 6) = (0, a27 + 1) := by
                    unfold t3
                    rw [e2]
                    rw [if_pos ⟨rfl, by (try dsimp only); omega⟩]
                  have e4 : dG (A 18) (F 5) 4 (t3 (A 18) (F 5) (0, F 6)) = ((0, a30), v30) := by
                    rw [e3]
                    exact hw30n
                  have eS : tS (A 18) (F 5) (0, F 6) = (0, a30) := by
                    unfold tS
                    rw [if_pos ⟨rfl, by (try dsimp only); omega⟩, e4]
                  have eF : tF (A 18) (F 5) (0, F 6) = 2 := by
                    unfold tF
                    rw [if_pos ⟨rfl, by (try dsimp only); omega⟩, e2]
                  have eG : tG (A 18) (F 5) (0, F 6) = nx (A 18) (F 5) (a27) := by
                    unfold tG
                    rw [e2]
                  have eH : tH (A 18) (F 5) (0, F 6) = v30 := by
                    unfold tH
                    rw [e4]
                  refine ⟨eS, fun _ => ⟨?_, .inr ⟨?_, ?_⟩⟩⟩
                  · rw [eF, ← ex, rd_wr_s (by omega) (by (try simp only [wr_len]); omega)]
                    decide
                  · rw [eG, ← ex, rd_wr_s (by omega) (by (try simp only [wr_len]); omega)]
                  · rw [eH, ← ex, rd_wr_s (by omega) (by (try simp only [wr_len]); omega)]
                · refine R_s (P := True) (f' := (82, [some (vR 17), some (vR 29), some (vI x), some (vI (nx (A 18) (F 5) (a27)))], [vI 0], LAY (u (u (u A 37 (A 37)) 35 (wr (A 35) x 3)) 36 (wr (A 36) x (nx (A 18) (F 5) (a27)))) (u (u F 6 a30) 7 v30), 0, 0)) hc44 1 rfl trivial ?_
                  refine R_retz hc44 rfl rfl (Or.inl rfl) ⟨0, wr (A 35) x 3, wr (A 36) x (nx (A 18) (F 5) (a27)), A 37, a30, v30, rfl, rfl, (by (try simp only [wr_len]); omega), (by (try simp only [wr_len]); omega), (by (try simp only [wr_len]); omega), by decide, by omega, by first | omega | (have := nx_in (l := A 18) (n := F 5) (a := F 6) (by omega); omega), fun q hq => by rw [rd_wr_n (by omega) (by omega) (by omega)], fun q hq => by rw [rd_wr_n (by omega) (by omega) (by omega)], fun _ _ => rfl, ?_, fun z => absurd z (by decide)⟩
                  have ehw17 : b17 = 1 := by omega
                  rw [ehw17] at hw17
                  have hw17n : wD (A 18) (F 5) IFF (0, F 6) = (0, a17) := hw17
                  have ehw27 : b27 = 1 := by omega
                  rw [ehw27] at hw27
                  have hw27n : wD (A 18) (F 5) ALIVE (0, a17) = (0, a27) := hw27
                  have ehw30 : b30 = 0 := by omega
                  rw [ehw30] at hw30
                  have hw30n : dG (A 18) (F 5) 4 (0, a27 + 1) = ((1, a30), v30) := hw30
                  have e2 : t2 (A 18) (F 5) (0, F 6) = ((0, a27), 2) := by
                    unfold t2
                    rw [hw17n]
                    rw [if_pos rfl]
                    unfold fD
                    (try dsimp only)
                    rw [if_pos (by omega), hw27n]
                  have e3 : t3 (A 18) (F 5) (0, F 6) = (0, a27 + 1) := by
                    unfold t3
                    rw [e2]
                    rw [if_pos ⟨rfl, by (try dsimp only); omega⟩]
                  have e4 : dG (A 18) (F 5) 4 (t3 (A 18) (F 5) (0, F 6)) = ((1, a30), v30) := by
                    rw [e3]
                    exact hw30n
                  have eS : tS (A 18) (F 5) (0, F 6) = (1, a30) := by
                    unfold tS
                    rw [if_pos ⟨rfl, by (try dsimp only); omega⟩, e4]
                  exact eS
              · refine R_s (P := True) (f' := (55, [some (vR 17), some (vR 29), some (vI x), some (vI (nx (A 18) (F 5) (a27)))], [vI 0], LAY (u (u (u A 36 (A 36)) 37 (A 37)) 35 (wr (A 35) x 3)) (u (u F 7 (F 7)) 6 a27), 0, 0)) hc44 1 rfl trivial ?_
                refine R_retz hc44 rfl rfl (Or.inl rfl) ⟨0, wr (A 35) x 3, A 36, A 37, a27, F 7, rfl, rfl, (by (try simp only [wr_len]); omega), (by (try simp only [wr_len]); omega), (by (try simp only [wr_len]); omega), by decide, by omega, by first | omega | (have := nx_in (l := A 18) (n := F 5) (a := F 6) (by omega); omega), fun q hq => by rw [rd_wr_n (by omega) (by omega) (by omega)], fun _ _ => rfl, fun _ _ => rfl, ?_, fun z => absurd z (by decide)⟩
                have ehw17 : b17 = 1 := by omega
                rw [ehw17] at hw17
                have hw17n : wD (A 18) (F 5) IFF (0, F 6) = (0, a17) := hw17
                have ehw27 : b27 = 1 := by omega
                rw [ehw27] at hw27
                have hw27n : wD (A 18) (F 5) ALIVE (0, a17) = (0, a27) := hw27
                have e2 : t2 (A 18) (F 5) (0, F 6) = ((0, a27), 2) := by
                  unfold t2
                  rw [hw17n]
                  rw [if_pos rfl]
                  unfold fD
                  (try dsimp only)
                  rw [if_pos (by omega), hw27n]
                have e3 : t3 (A 18) (F 5) (0, F 6) = (1, a27) := by
                  unfold t3
                  rw [e2]
                  rw [if_neg (fun z => by have := z.2; (try dsimp only at this); omega)]
                have e4 : dG (A 18) (F 5) 4 (t3 (A 18) (F 5) (0, F 6)) = ((1, a27), 0) := by rw [e3, dG_f]
                have eS : tS (A 18) (F 5) (0, F 6) = (1, a27) := by
                  unfold tS
                  rw [if_pos ⟨rfl, by (try dsimp only); omega⟩, e4]
                exact eS
        · refine R_s (P := True) (f' := (30, [some (vR 17), some (vR 29), some (vI x), none], [vI 0], LAY (u (u (u A 36 (A 36)) 37 (A 37)) 35 (wr (A 35) x 3)) (u (u F 7 (F 7)) 6 a27), 0, 0)) hc44 1 rfl trivial ?_
          refine R_retz hc44 rfl rfl (Or.inl rfl) ⟨0, wr (A 35) x 3, A 36, A 37, a27, F 7, rfl, rfl, (by (try simp only [wr_len]); omega), (by (try simp only [wr_len]); omega), (by (try simp only [wr_len]); omega), by decide, by omega, by first | omega | (have := nx_in (l := A 18) (n := F 5) (a := F 6) (by omega); omega), fun q hq => by rw [rd_wr_n (by omega) (by omega) (by omega)], fun _ _ => rfl, fun _ _ => rfl, ?_, fun z => absurd z (by decide)⟩
          have ehw17 : b17 = 1 := by omega
          rw [ehw17] at hw17
          have hw17n : wD (A 18) (F 5) IFF (0, F 6) = (0, a17) := hw17
          have ehw27 : b27 = 0 := by omega
          rw [ehw27] at hw27
          have hw27n : wD (A 18) (F 5) ALIVE (0, a17) = (1, a27) := hw27
          have e2 : t2 (A 18) (F 5) (0, F 6) = ((1, a27), 2) := by
            unfold t2
            rw [hw17n]
            rw [if_pos rfl]
            unfold fD
            (try dsimp only)
            rw [if_pos (by omega), hw27n]
          have e3 : t3 (A 18) (F 5) (0, F 6) = (1, a27) := by
            unfold t3
            rw [e2]
            rw [if_neg (fun z => absurd (show (1 : Int) = 0 from z.1) (by decide))]
          have e4 : dG (A 18) (F 5) 4 (t3 (A 18) (F 5) (0, F 6)) = ((1, a27), 0) := by rw [e3, dG_f]
          have eS : tS (A 18) (F 5) (0, F 6) = (1, a27) := by
            unfold tS
            rw [if_pos ⟨rfl, by (try dsimp only); omega⟩, e4]
          exact eS
  · refine R_s (P := True) (f' := (10, [some (vR 17), some (vR 29), some (vI x), none], [vI 1], LAY (u (u (u A 35 (A 35)) 36 (A 36)) 37 (A 37)) (u (u F 6 (F 6)) 7 (F 7)), 0, 0)) hc44 1 rfl trivial ?_
    refine R_retz hc44 rfl rfl (Or.inr rfl) ⟨1, A 35, A 36, A 37, F 6, F 7, rfl, rfl, (by (try simp only [wr_len]); omega), (by (try simp only [wr_len]); omega), (by (try simp only [wr_len]); omega), by decide, by omega, by first | omega | (have := nx_in (l := A 18) (n := F 5) (a := F 6) (by omega); omega), fun _ _ => rfl, fun _ _ => rfl, fun _ _ => rfl, ?_, fun _ => ⟨?_, .inl ?_⟩⟩
    · unfold tS
      rw [if_neg (fun z => by have := z.2; (try dsimp only at this); omega)]
      rfl
    all_goals have e9 : tF (A 18) (F 5) (0, F 6) = -1 := by (unfold tF; rw [if_neg (fun z => by have := z.2; (try dsimp only at this); omega)])
    · rw [e9]; omega
    · exact e9
theorem l_rrest1 {A : Nat → List Int} {F : Nat → Int} (hL : LENS A) (h5 : 0 ≤ F 5 ∧ F 5 ≤ 120) (h6 : 0 ≤ F 6 ∧ F 6 ≤ F 5) {x : Int} {i : Nat} (ex : x = (i : Int)) (hi : i < 6) : R 43 (0, L0 43 [vR 17, vR 29, vI x], [], LAY A F, 0, 0) (fun r G => ∃ (c : Int) (q0 q3 : List Int) (a v : Int), r = some (vI c) ∧ G = LAY (u (u A 30 q0) 33 q3) (u (u F 6 a) 7 v) ∧ q0.length = 6 ∧ q3.length = 6 ∧ (c = 0 ∨ c = 1) ∧ 0 ≤ a ∧ a ≤ F 5 ∧ (∀ q : Nat, q ≠ i → rd q0 q = rd (A 30) q) ∧ (∀ q : Nat, q ≠ i → rd q3 q = rd (A 33) q) ∧ (hS (A 18) (F 5) (wD (A 18) (F 5) REST (0, F 6))).1 = (1 - c, a) ∧ rd q0 i = 3 ∧ (c = 1 → rd q3 i = (hS (A 18) (F 5) (wD (A 18) (F 5) REST (0, F 6))).2)) := by
  have d0 : (A 30).length = 6 := hL 30 (by decide)
  have d1 : (A 31).length = 6 := hL 31 (by decide)
  have d2 : (A 32).length = 6 := hL 32 (by decide)
  have d3 : (A 33).length = 6 := hL 33 (by decide)
  have d4 : (A 34).length = 6 := hL 34 (by decide)
  have d5 : (A 35).length = 6 := hL 35 (by decide)
  have d6 : (A 36).length = 6 := hL 36 (by decide)
  have d7 : (A 37).length = 6 := hL 37 (by decide)
  refine R_s (P := True) (f' := (0, [some (vR 17), some (vR 29), some (vI x)], [], LAY (u (u A 30 (A 30)) 33 (A 33)) (u (u F 6 (F 6)) 7 (F 7)), 0, 0)) hc43 0 rfl trivial ?_
  refine R_s (P := (0 ≤ x ∧ x < ((A 30).length : Int)) ∧ True) (f' := (10, [some (vR 17), some (vR 29), some (vI x)], [vS 12, vR 17], LAY (u (u A 33 (A 33)) 30 (wr (A 30) x 3)) (u (u F 6 (F 6)) 7 (F 7)), 0, 0)) hc43 7 rfl ⟨⟨by omega, by omega⟩, trivial⟩ ?_
  refine R_cv hc43 rfl rfl (l_word12 (A := (u (u A 33 (A 33)) 30 (wr (A 30) x 3))) (F := (u (u F 6 (F 6)) 7 (F 7))) (LENS_u (LENS_u hL (by show (A 33).length = (A 33).length; omega)) (by show (wr (A 30) x 3).length = (A 30).length; simp only [wr_len])) h5 ⟨by (show 0 ≤ F 6); omega, by (show F 6 ≤ F 5); omega⟩) (fun r G9 hp9 => ?_)
  obtain ⟨b31, a31, rfl, rfl, hb31, hw31, p31, q31⟩ := hp9
  have p31 : 0 ≤ a31 := p31
  have q31 : a31 ≤ F 5 := q31
  refine R_s (f' := (13, [some (vR 17), some (vR 29), some (vI x)], [vI b31], LAY (u (u A 33 (A 33)) 30 (wr (A 30) x 3)) (u (u F 7 (F 7)) 6 a31), 0, 0)) hc43 0 rfl trivial ?_
  refine R_if (t := 29) hc43 rfl rfl (fun (c1 : b31 = 0) => ?_) (fun (c1 : ¬ (b31 = 0)) => ?_)
  · refine R_s (P := True) (f' := (30, [some (vR 17), some (vR 29), some (vI x)], [vI 0], LAY (u (u A 33 (A 33)) 30 (wr (A 30) x 3)) (u (u F 7 (F 7)) 6 a31), 0, 0)) hc43 1 rfl trivial ?_
    refine R_retz hc43 rfl rfl (Or.inl rfl) ⟨0, wr (A 30) x 3, A 33, a31, F 7, rfl, rfl, (by (try simp only [wr_len]); omega), (by (try simp only [wr_len]); omega), by decide, by omega, by omega, fun q hq => by rw [rd_wr_n (by omega) (by omega) (by omega)], fun _ _ => rfl, ?_⟩
    have ehw31 : b31 = 0 := by omega
    rw [ehw31] at hw31
    have hw31n : wD (A 18) (F 5) REST (0, F 6) = (1, a31) := hw31
    have eS : hS (A 18) (F 5) (wD (A 18) (F 5) REST (0, F 6)) = ((1, a31), 0) := by rw [hw31n, hS_f]
    exact ⟨by rw [eS]; rfl, by rw [← ex]; exact rd_wr_s (by omega) (by omega), fun z => absurd z (by decide)⟩
  · refine R_s (P := True) (f' := (19, [some (vR 17), some (vR 29), some (vI x)], [vI x, vR 29, vR 17], LAY (u (u A 33 (A 33)) 30 (wr (A 30) x 3)) (u (u F 7 (F 7)) 6 a31), 0, 0)) hc43 3 rfl trivial ?_
    refine R_cv hc43 rfl rfl (l_rhouse1 (A := (u (u A 33 (A 33)) 30 (wr (A 30) x 3))) (F := (u (u F 7 (F 7)) 6 a31)) (LENS_u (LENS_u hL (by show (A 33).length = (A 33).length; omega)) (by show (wr (A 30) x 3).length = (A 30).length; simp only [wr_len])) h5 ⟨by (show 0 ≤ a31); omega, by (show a31 ≤ F 5); omega⟩ ex hi) (fun r G9 hp9 => ?_)
    obtain ⟨b32, h3_32, a32, v32, rfl, rfl, l32, hb32, p32, q32, kp32, h32, hw32, hv32⟩ := hp9
    have q32 : a32 ≤ F 5 := q32
    have kp32 : ∀ q : Nat, q ≠ i → rd h3_32 q = rd (A 33) q := kp32
    refine R_s (f' := (22, [some (vR 17), some (vR 29), some (vI x)], [vI b32], LAY (u (u A 30 (wr (A 30) x 3)) 33 h3_32) (u (u F 6 a32) 7 v32), 0, 0)) hc43 0 rfl trivial ?_
    refine R_if (t := 29) hc43 rfl rfl (fun (c2 : b32 = 0) => ?_) (fun (c2 : ¬ (b32 = 0)) => ?_)
    · refine R_s (P := True) (f' := (30, [some (vR 17), some (vR 29), some (vI x)], [vI 0], LAY (u (u A 30 (wr (A 30) x 3)) 33 h3_32) (u (u F 6 a32) 7 v32), 0, 0)) hc43 1 rfl trivial ?_
      refine R_retz hc43 rfl rfl (Or.inl rfl) ⟨0, wr (A 30) x 3, h3_32, a32, v32, rfl, rfl, (by (try simp only [wr_len]); omega), (by (try simp only [wr_len]); omega), by decide, by omega, by omega, fun q hq => by rw [rd_wr_n (by omega) (by omega) (by omega)], fun q hq => by rw [kp32 q hq], ?_⟩
      have ehw31 : b31 = 1 := by omega
      rw [ehw31] at hw31
      have hw31n : wD (A 18) (F 5) REST (0, F 6) = (0, a31) := hw31
      have ehw32 : b32 = 0 := by omega
      rw [ehw32] at hw32
      have hw32n : hS (A 18) (F 5) (0, a31) = ((1, a32), h32) := hw32
      have eS : hS (A 18) (F 5) (wD (A 18) (F 5) REST (0, F 6)) = ((1, a32), h32) := by rw [hw31n, hw32n]
      exact ⟨by rw [eS]; rfl, by rw [← ex]; exact rd_wr_s (by omega) (by omega), fun z => absurd z (by decide)⟩
    · refine R_s (P := True) (f' := (30, [some (vR 17), some (vR 29), some (vI x)], [vI 1], LAY (u (u A 30 (wr (A 30) x 3)) 33 h3_32) (u (u F 6 a32) 7 v32), 0, 0)) hc43 2 rfl trivial ?_
      refine R_retz hc43 rfl rfl (Or.inr rfl) ⟨1, wr (A 30) x 3, h3_32, a32, v32, rfl, rfl, (by (try simp only [wr_len]); omega), (by (try simp only [wr_len]); omega), by decide, by omega, by omega, fun q hq => by rw [rd_wr_n (by omega) (by omega) (by omega)], fun q hq => by rw [kp32 q hq], ?_⟩
      have ehw31 : b31 = 1 := by omega
      rw [ehw31] at hw31
      have hw31n : wD (A 18) (F 5) REST (0, F 6) = (0, a31) := hw31
      have ehw32 : b32 = 1 := by omega
      rw [ehw32] at hw32
      have hw32n : hS (A 18) (F 5) (0, a31) = ((0, a32), h32) := hw32
      have eS : hS (A 18) (F 5) (wD (A 18) (F 5) REST (0, F 6)) = ((0, a32), h32) := by rw [hw31n, hw32n]
      exact ⟨by rw [eS]; rfl, by rw [← ex]; exact rd_wr_s (by omega) (by omega), fun _ => by rw [eS]; exact hv32 (by omega)⟩
