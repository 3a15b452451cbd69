/-! the heap of a run, by places: A what arrays hold, F what number fields hold -/
def u {α : Type} (f : Nat → α) (k : Nat) (v : α) : Nat → α := fun j => bif Nat.beq j k then v else f j
theorem u_s {α : Type} {f : Nat → α} {k : Nat} {v : α} : u f k v k = v := by
  unfold u
  rw [show Nat.beq k k = true from Nat.beq_refl k]
  rfl
theorem u_n {α : Type} {f : Nat → α} {k j : Nat} {v : α} (h : j ≠ k) : u f k v j = f j := by
  unfold u
  cases q : Nat.beq j k with
  | true => exact absurd (Nat.eq_of_beq_eq_true q) h
  | false => rfl
def LAY (A : Nat → List Int) (F : Nat → Int) : AG := [eA .int (A 0), eO 6 [vR 2, vR 12, vR 17, vR 19, vR 74, vR 79, vR 84, vR 85, vR 86, vR 87, vI (F 0), vI (F 1), vI (F 2)], eO 1 [vR 3, vR 4, vR 5, vR 6, vR 7, vI (F 3), vR 8, vR 9, vR 10, vR 11], eA .int (A 3), eA .int (A 4), eA .int (A 5), eA .boolean (A 6), eA .boolean (A 7), eA .boolean (A 8), eA .int (A 9), eA .int (A 10), eA .boolean (A 11), eO 5 [vR 13, vR 14, vR 15, vR 16, vI (F 4)], eA .int (A 13), eA .int (A 14), eA .boolean (A 15), eA .int (A 16), eO 4 [vR 18, vI (F 5), vI (F 6), vI (F 7)], eA .int (A 18), eR [some 20, some 29, some 38, some 47, some 56, some 65], eO 0 [vR 21, vR 22, vR 23, vR 24, vR 25, vR 26, vR 27, vR 28, vI (F 8)], eA .int (A 21), eA .int (A 22), eA .int (A 23), eA .int (A 24), eA .boolean (A 25), eA .int (A 26), eA .int (A 27), eA .int (A 28), eO 0 [vR 30, vR 31, vR 32, vR 33, vR 34, vR 35, vR 36, vR 37, vI (F 9)], eA .int (A 30), eA .int (A 31), eA .int (A 32), eA .int (A 33), eA .boolean (A 34), eA .int (A 35), eA .int (A 36), eA .int (A 37), eO 0 [vR 39, vR 40, vR 41, vR 42, vR 43, vR 44, vR 45, vR 46, vI (F 10)], eA .int (A 39), eA .int (A 40), eA .int (A 41), eA .int (A 42), eA .boolean (A 43), eA .int (A 44), eA .int (A 45), eA .int (A 46), eO 0 [vR 48, vR 49, vR 50, vR 51, vR 52, vR 53, vR 54, vR 55, vI (F 11)], eA .int (A 48), eA .int (A 49), eA .int (A 50), eA .int (A 51), eA .boolean (A 52), eA .int (A 53), eA .int (A 54), eA .int (A 55), eO 0 [vR 57, vR 58, vR 59, vR 60, vR 61, vR 62, vR 63, vR 64, vI (F 12)], eA .int (A 57), eA .int (A 58), eA .int (A 59), eA .int (A 60), eA .boolean (A 61), eA .int (A 62), eA .int (A 63), eA .int (A 64), eO 0 [vR 66, vR 67, vR 68, vR 69, vR 70, vR 71, vR 72, vR 73, vI (F 13)], eA .int (A 66), eA .int (A 67), eA .int (A 68), eA .int (A 69), eA .boolean (A 70), eA .int (A 71), eA .int (A 72), eA .int (A 73), eO 3 [vR 75, vR 76, vR 77, vR 78, vI (F 14), vI (F 15)], eA .boolean (A 75), eA .int (A 76), eA .int (A 77), eA .int (A 78), eO 2 [vR 80, vR 81, vR 82, vR 83, vI (F 16), vI (F 17)], eA .int (A 80), eA .int (A 81), eA .int (A 82), eA .boolean (A 83), eA .long (A 84), eA .long (A 85), eA .int (A 86), eA .int (A 87)]
def lenOf : Nat → Nat := fun x => (bif Nat.blt x 60 then (bif Nat.blt x 32 then (bif Nat.blt x 16 then (bif Nat.blt x 9 then (bif Nat.blt x 6 then (bif Nat.blt x 4 then (bif Nat.beq x 3 then 30 else 0) else (bif Nat.blt x 5 then (bif Nat.beq x 4 then 30 else 0) else (bif Nat.beq x 5 then 30 else 0))) else (bif Nat.blt x 7 then (bif Nat.beq x 6 then 30 else 0) else (bif Nat.blt x 8 then (bif Nat.beq x 7 then 30 else 0) else (bif Nat.beq x 8 then 30 else 0)))) else (bif Nat.blt x 13 then (bif Nat.blt x 10 then (bif Nat.beq x 9 then 30 else 0) else (bif Nat.blt x 11 then (bif Nat.beq x 10 then 30 else 0) else (bif Nat.beq x 11 then 30 else 0))) else (bif Nat.blt x 14 then (bif Nat.beq x 13 then 10 else 0) else (bif Nat.blt x 15 then (bif Nat.beq x 14 then 10 else 0) else (bif Nat.beq x 15 then 10 else 0))))) else (bif Nat.blt x 25 then (bif Nat.blt x 22 then (bif Nat.blt x 18 then (bif Nat.beq x 16 then 60 else 0) else (bif Nat.blt x 21 then (bif Nat.beq x 18 then 120 else 0) else (bif Nat.beq x 21 then 6 else 0))) else (bif Nat.blt x 23 then (bif Nat.beq x 22 then 6 else 0) else (bif Nat.blt x 24 then (bif Nat.beq x 23 then 6 else 0) else (bif Nat.beq x 24 then 6 else 0)))) else (bif Nat.blt x 28 then (bif Nat.blt x 26 then (bif Nat.beq x 25 then 6 else 0) else (bif Nat.blt x 27 then (bif Nat.beq x 26 then 6 else 0) else (bif Nat.beq x 27 then 6 else 0))) else (bif Nat.blt x 30 then (bif Nat.beq x 28 then 6 else 0) else (bif Nat.blt x 31 then (bif Nat.beq x 30 then 6 else 0) else (bif Nat.beq x 31 then 6 else 0)))))) else (bif Nat.blt x 45 then (bif Nat.blt x 39 then (bif Nat.blt x 35 then (bif Nat.blt x 33 then (bif Nat.beq x 32 then 6 else 0) else (bif Nat.blt x 34 then (bif Nat.beq x 33 then 6 else 0) else (bif Nat.beq x 34 then 6 else 0))) else (bif Nat.blt x 36 then (bif Nat.beq x 35 then 6 else 0) else (bif Nat.blt x 37 then (bif Nat.beq x 36 then 6 else 0) else (bif Nat.beq x 37 then 6 else 0)))) else (bif Nat.blt x 42 then (bif Nat.blt x 40 then (bif Nat.beq x 39 then 6 else 0) else (bif Nat.blt x 41 then (bif Nat.beq x 40 then 6 else 0) else (bif Nat.beq x 41 then 6 else 0))) else (bif Nat.blt x 43 then (bif Nat.beq x 42 then 6 else 0) else (bif Nat.blt x 44 then (bif Nat.beq x 43 then 6 else 0) else (bif Nat.beq x 44 then 6 else 0))))) else (bif Nat.blt x 52 then (bif Nat.blt x 49 then (bif Nat.blt x 46 then (bif Nat.beq x 45 then 6 else 0) else (bif Nat.blt x 48 then (bif Nat.beq x 46 then 6 else 0) else (bif Nat.beq x 48 then 6 else 0))) else (bif Nat.blt x 50 then (bif Nat.beq x 49 then 6 else 0) else (bif Nat.blt x 51 then (bif Nat.beq x 50 then 6 else 0) else (bif Nat.beq x 51 then 6 else 0)))) else (bif Nat.blt x 55 then (bif Nat.blt x 53 then (bif Nat.beq x 52 then 6 else 0) else (bif Nat.blt x 54 then (bif Nat.beq x 53 then 6 else 0) else (bif Nat.beq x 54 then 6 else 0))) else (bif Nat.blt x 58 then (bif Nat.blt x 57 then (bif Nat.beq x 55 then 6 else 0) else (bif Nat.beq x 57 then 6 else 0)) else (bif Nat.blt x 59 then (bif Nat.beq x 58 then 6 else 0) else (bif Nat.beq x 59 then 6 else 0))))))) else (bif Nat.blt x 89 then (bif Nat.blt x 73 then (bif Nat.blt x 67 then (bif Nat.blt x 63 then (bif Nat.blt x 61 then (bif Nat.beq x 60 then 6 else 0) else (bif Nat.blt x 62 then (bif Nat.beq x 61 then 6 else 0) else (bif Nat.beq x 62 then 6 else 0))) else (bif Nat.blt x 64 then (bif Nat.beq x 63 then 6 else 0) else (bif Nat.blt x 66 then (bif Nat.beq x 64 then 6 else 0) else (bif Nat.beq x 66 then 6 else 0)))) else (bif Nat.blt x 70 then (bif Nat.blt x 68 then (bif Nat.beq x 67 then 6 else 0) else (bif Nat.blt x 69 then (bif Nat.beq x 68 then 6 else 0) else (bif Nat.beq x 69 then 6 else 0))) else (bif Nat.blt x 71 then (bif Nat.beq x 70 then 6 else 0) else (bif Nat.blt x 72 then (bif Nat.beq x 71 then 6 else 0) else (bif Nat.beq x 72 then 6 else 0))))) else (bif Nat.blt x 81 then (bif Nat.blt x 77 then (bif Nat.blt x 75 then (bif Nat.beq x 73 then 6 else 0) else (bif Nat.blt x 76 then (bif Nat.beq x 75 then 6 else 0) else (bif Nat.beq x 76 then 6 else 0))) else (bif Nat.blt x 78 then (bif Nat.beq x 77 then 30 else 0) else (bif Nat.blt x 80 then (bif Nat.beq x 78 then 30 else 0) else (bif Nat.beq x 80 then 30 else 0)))) else (bif Nat.blt x 84 then (bif Nat.blt x 82 then (bif Nat.beq x 81 then 30 else 0) else (bif Nat.blt x 83 then (bif Nat.beq x 82 then 30 else 0) else (bif Nat.beq x 83 then 30 else 0))) else (bif Nat.blt x 86 then (bif Nat.blt x 85 then (bif Nat.beq x 84 then 30 else 0) else (bif Nat.beq x 85 then 8 else 0)) else (bif Nat.blt x 87 then (bif Nat.beq x 86 then 30 else 0) else (bif Nat.beq x 87 then 9 else 0)))))) else (bif Nat.blt x 101 then (bif Nat.blt x 95 then (bif Nat.blt x 92 then (bif Nat.blt x 90 then (bif Nat.beq x 89 then 9 else 0) else (bif Nat.blt x 91 then (bif Nat.beq x 90 then 30 else 0) else (bif Nat.beq x 91 then 30 else 0))) else (bif Nat.blt x 93 then (bif Nat.beq x 92 then 30 else 0) else (bif Nat.blt x 94 then (bif Nat.beq x 93 then 30 else 0) else (bif Nat.beq x 94 then 30 else 0)))) else (bif Nat.blt x 98 then (bif Nat.blt x 96 then (bif Nat.beq x 95 then 10 else 0) else (bif Nat.blt x 97 then (bif Nat.beq x 96 then 10 else 0) else (bif Nat.beq x 97 then 10 else 0))) else (bif Nat.blt x 99 then (bif Nat.beq x 98 then 60 else 0) else (bif Nat.blt x 100 then (bif Nat.beq x 99 then 6 else 0) else (bif Nat.beq x 100 then 288 else 0))))) else (bif Nat.blt x 107 then (bif Nat.blt x 104 then (bif Nat.blt x 102 then (bif Nat.beq x 101 then 38 else 0) else (bif Nat.blt x 103 then (bif Nat.beq x 102 then 90 else 0) else (bif Nat.beq x 103 then 30 else 0))) else (bif Nat.blt x 105 then (bif Nat.beq x 104 then 30 else 0) else (bif Nat.blt x 106 then (bif Nat.beq x 105 then 30 else 0) else (bif Nat.beq x 106 then 120 else 0)))) else (bif Nat.blt x 110 then (bif Nat.blt x 108 then (bif Nat.beq x 107 then 6 else 0) else (bif Nat.blt x 109 then (bif Nat.beq x 108 then 30 else 0) else (bif Nat.beq x 109 then 30 else 0))) else (bif Nat.blt x 112 then (bif Nat.blt x 111 then (bif Nat.beq x 110 then 30 else 0) else (bif Nat.beq x 111 then 30 else 0)) else (bif Nat.blt x 113 then (bif Nat.beq x 112 then 30 else 0) else (bif Nat.beq x 113 then 30 else 0))))))))
/-- every array has its length -/
def LENS (A : Nat → List Int) : Prop := ∀ j : Nat, 0 < j → (A j).length = lenOf j
theorem wr_len (l : List Int) (i v : Int) : (wr l i v).length = l.length := by simp [wr]
theorem LENS_u {A : Nat → List Int} (h : LENS A) {k : Nat} {l : List Int} (hl : l.length = (A k).length) : LENS (u A k l) := by
  intro j hj
  by_cases e : j = k
  · subst e
    rw [u_s, hl]
    exact h j hj
  · rw [u_n e]
    exact h j hj
theorem LENS_wr {A : Nat → List Int} (h : LENS A) (k : Nat) (i v : Int) : LENS (u A k (wr (A k) i v)) := LENS_u h (wr_len _ _ _)
theorem rd_wr_s {l : List Int} {i v : Int} (h0 : 0 ≤ i) (h1 : i < l.length) : rd (wr l i v) i = v := by
  have h2 : i.toNat < l.length := by omega
  unfold rd wr
  rw [List.getD_eq_getElem?_getD, List.getElem?_set_self h2]
  rfl
theorem rd_wr_n {l : List Int} {i j v : Int} (h0 : 0 ≤ i) (hj : 0 ≤ j) (h : j ≠ i) : rd (wr l i v) j = rd l j := by
  unfold rd wr
  rw [List.getD_eq_getElem?_getD, List.getElem?_set_ne (by omega), ← List.getD_eq_getElem?_getD]
theorem rd_wr {l : List Int} {i j v : Int} (h0 : 0 ≤ i) (h1 : i < l.length) (hj : 0 ≤ j) : rd (wr l i v) j = if j = i then v else rd l j := by
  by_cases h : j = i
  · subst h
    rw [if_pos rfl, rd_wr_s h0 h1]
  · rw [if_neg h, rd_wr_n h0 hj h]
theorem wr_rd {l : List Int} {i : Int} (h1 : i < l.length) (h0 : 0 ≤ i) : wr l i (rd l i) = l := by
  unfold wr rd
  have h2 : i.toNat < l.length := by omega
  rw [List.getD_eq_getElem?_getD, List.getElem?_eq_getElem h2]
  exact List.set_getElem_self h2
theorem list_ext {l l' : List Int} (hl : l.length = l'.length) (h : ∀ j : Nat, j < l.length → rd l j = rd l' j) : l = l' := by
  refine List.ext_getElem hl fun j h1 h2 => ?_
  have := h j h1
  unfold rd at this
  rw [List.getD_eq_getElem?_getD, List.getD_eq_getElem?_getD, Int.toNat_natCast, List.getElem?_eq_getElem h1, List.getElem?_eq_getElem h2] at this
  exact this
/-- how many of the first n are not 0 -/
def cb (l : List Int) : Nat → Int
  | 0 => 0
  | n + 1 => cb l n + (if rd l n = 0 then 0 else 1)
theorem cb_le (l : List Int) (n : Nat) : 0 ≤ cb l n ∧ cb l n ≤ n := by
  induction n with
  | zero => simp [cb]
  | succ n ih =>
    unfold cb
    split <;> omega
theorem m_has (A : Nat → List Int) (F : Nat → Int) (p : Int) : R 5 (0, L0 5 [vR 2, vI p], [], LAY A F, 0, 0) (fun r G => r = some (vI (if 0 ≤ p ∧ p < F 3 then 1 else 0)) ∧ G = LAY A F) := by
  refine R_s (P := True) (f' := (1, [some (vR 2), some (vI p)], [vI p], LAY A F, 0, 0)) hc5 1 rfl trivial ?_
  refine R_if (t := 16) hc5 rfl rfl (fun (c1 : p < 0) => ?_) (fun (c1 : ¬ (p < 0)) => ?_)
  · refine R_s (P := True) (f' := (17, [some (vR 2), some (vI p)], [vI 0], LAY A F, 0, 0)) hc5 1 rfl trivial ?_
    exact R_retz hc5 rfl rfl (Or.inl rfl) ⟨by rw [if_neg (by omega)], rfl⟩
  · refine R_s (P := True) (f' := (9, [some (vR 2), some (vI p)], [vI (F 3), vI p], LAY A F, 0, 0)) hc5 3 rfl trivial ?_
    refine R_ic (t := 16) hc5 rfl rfl (fun (c2 : F 3 ≤ p) => ?_) (fun (c2 : ¬ (F 3 ≤ p)) => ?_)
    · refine R_s (P := True) (f' := (17, [some (vR 2), some (vI p)], [vI 0], LAY A F, 0, 0)) hc5 1 rfl trivial ?_
      exact R_retz hc5 rfl rfl (Or.inl rfl) ⟨by rw [if_neg (by omega)], rfl⟩
    · refine R_s (P := True) (f' := (17, [some (vR 2), some (vI p)], [vI 1], LAY A F, 0, 0)) hc5 2 rfl trivial ?_
      exact R_retz hc5 rfl rfl (Or.inr rfl) ⟨by rw [if_pos (by omega)], rfl⟩

theorem m_unsureCount {A : Nat → List Int} {F : Nat → Int} (hL : LENS A) (hn : 0 ≤ F 3 ∧ F 3 ≤ 30) : R 10 (0, L0 10 [vR 2], [], LAY A F, 0, 0) (fun r G => r = some (vI (cb (A 6) (F 3).toNat)) ∧ G = LAY A F) := by
  have h6 : (A 6).length = 30 := hL 6 (by decide)
  have lp : ∀ (m i : Nat) (s x : Int), x = (i : Int) → s = cb (A 6) i → i + m = (F 3).toNat → R 10 (4, [some (vR 2), some (vI s), some (vI x)], [], LAY A F, 0, 0) (fun r G => r = some (vI (cb (A 6) (F 3).toNat)) ∧ G = LAY A F) := by
    intro m
    induction m with
    | zero =>
      intro i s x ex es hi
      have hb := cb_le (A 6) i
      refine R_s (P := True) (f' := (9, [some (vR 2), some (vI s), some (vI x)], [vI (F 3), vI x], LAY A F, 0, 0)) hc10 3 rfl trivial ?_
      refine R_ic (t := 35) hc10 rfl rfl (fun (c1 : F 3 ≤ x) => ?_) (fun (c1 : ¬ (F 3 ≤ x)) => ?_)
      · refine R_s (P := True) (f' := (36, [some (vR 2), some (vI s), some (vI x)], [vI s], LAY A F, 0, 0)) hc10 1 rfl trivial ?_
        exact R_reti hc10 rfl rfl ⟨by rw [es, show i = (F 3).toNat by omega], rfl⟩
      · refine R_s (P := (0 ≤ x ∧ x < ((A 6).length : Int)) ∧ True) (f' := (19, [some (vR 2), some (vI s), some (vI x)], [vI (rd (A 6) x), vI s], LAY A F, 0, 0)) hc10 5 rfl ⟨⟨by omega, by omega⟩, trivial⟩ ?_
        refine R_if (t := 26) hc10 rfl rfl (fun (c2 : rd (A 6) x = 0) => ?_) (fun (c2 : ¬ (rd (A 6) x = 0)) => ?_)
        · refine R_s (P := inI (s + 0) ∧ inI (x + 1) ∧ True) (f' := (4, [some (vR 2), some (vI (s + 0)), some (vI (x + 1))], [], LAY A F, 0, 0)) hc10 5 rfl ⟨⟨by omega, by omega⟩, ⟨by omega, by omega⟩, trivial⟩ ?_
          exact absurd c1 (by omega)
        · refine R_s (P := inI (s + 1) ∧ inI (x + 1) ∧ True) (f' := (4, [some (vR 2), some (vI (s + 1)), some (vI (x + 1))], [], LAY A F, 0, 0)) hc10 6 rfl ⟨⟨by omega, by omega⟩, ⟨by omega, by omega⟩, trivial⟩ ?_
          exact absurd c1 (by omega)
    | succ m ih =>
      intro i s x ex es hi
      have hb := cb_le (A 6) i
      refine R_s (P := True) (f' := (9, [some (vR 2), some (vI s), some (vI x)], [vI (F 3), vI x], LAY A F, 0, 0)) hc10 3 rfl trivial ?_
      refine R_ic (t := 35) hc10 rfl rfl (fun (c1 : F 3 ≤ x) => ?_) (fun (c1 : ¬ (F 3 ≤ x)) => ?_)
      · refine R_s (P := True) (f' := (36, [some (vR 2), some (vI s), some (vI x)], [vI s], LAY A F, 0, 0)) hc10 1 rfl trivial ?_
        exact R_reti hc10 rfl rfl (by omega)
      · refine R_s (P := (0 ≤ x ∧ x < ((A 6).length : Int)) ∧ True) (f' := (19, [some (vR 2), some (vI s), some (vI x)], [vI (rd (A 6) x), vI s], LAY A F, 0, 0)) hc10 5 rfl ⟨⟨by omega, by omega⟩, trivial⟩ ?_
        refine R_if (t := 26) hc10 rfl rfl (fun (c2 : rd (A 6) x = 0) => ?_) (fun (c2 : ¬ (rd (A 6) x = 0)) => ?_)
        · refine R_s (P := inI (s + 0) ∧ inI (x + 1) ∧ True) (f' := (4, [some (vR 2), some (vI (s + 0)), some (vI (x + 1))], [], LAY A F, 0, 0)) hc10 5 rfl ⟨⟨by omega, by omega⟩, ⟨by omega, by omega⟩, trivial⟩ ?_
          exact ih (i + 1) _ _ (by push_cast; omega) (by subst es; subst ex; simp only [cb]; split <;> omega) (by omega)
        · refine R_s (P := inI (s + 1) ∧ inI (x + 1) ∧ True) (f' := (4, [some (vR 2), some (vI (s + 1)), some (vI (x + 1))], [], LAY A F, 0, 0)) hc10 6 rfl ⟨⟨by omega, by omega⟩, ⟨by omega, by omega⟩, trivial⟩ ?_
          exact ih (i + 1) _ _ (by push_cast; omega) (by subst es; subst ex; simp only [cb]; split <;> omega) (by omega)
  refine R_s (P := True) (f' := (4, [some (vR 2), some (vI 0), some (vI 0)], [], LAY A F, 0, 0)) hc10 4 rfl trivial ?_
  exact lp (F 3).toNat 0 0 0 rfl rfl (by omega)

