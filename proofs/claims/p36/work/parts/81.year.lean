/-! what a question leaves as it was, and a year's sums -/
theorem u_id {α : Type} (f : Nat → α) (k : Nat) : u f k (f k) = f := by
  funext j
  by_cases h : j = k
  · rw [h, u_s]
  · rw [u_n h]
theorem PST_tr {A A1 A2 : Nat → List Int} {F F1 F2 : Nat → Int} (h1 : PST A F A1 F1) (h2 : PST A1 F1 A2 F2) : PST A F A2 F2 := ⟨fun j hj => (h2.1 j hj).trans (h1.1 j hj), fun j hj => (h2.2 j hj).trans (h1.2 j hj)⟩
theorem kA_r {j : Nat} (h : 21 ≤ j ∧ j ≤ 73) : kA j = true := by
  have h1 : Nat.ble 21 j = true := Nat.ble_eq_true_of_le h.1
  have h2 : Nat.ble j 73 = true := Nat.ble_eq_true_of_le h.2
  unfold kA
  rw [h1, h2]
  simp
theorem kF_d {d : Nat} (h : d ≤ 1) : kF (d + 8) = true := by
  match d, h with
  | 0, _ => rfl
  | 1, _ => rfl
section
variable {A A' : Nat → List Int} {F F' : Nat → Int}
theorem N_Y_P (h : PST A F A' F') (d : Int) : N_Y A' F' d = N_Y A F d := by
  unfold N_Y
  rw [h.1 14 rfl, h.1 15 rfl, h.1 16 rfl, h.2 4 rfl]
theorem N_al_P (h : PST A F A' F') : N_al A' F' = N_al A F := by
  unfold N_al
  rw [h.2 2 rfl, h.1 4 rfl, h.1 6 rfl, h.1 5 rfl, h.1 7 rfl]
theorem N_Q_P (h : PST A F A' F') {b : Nat} (hb : 21 ≤ b ∧ b + 7 ≤ 73) : N_Q A' b = N_Q A b := by
  funext j
  unfold N_Q
  cases q : Nat.blt j 8 with
  | false => rfl
  | true =>
    have q2 : j < 8 := Nat.le_of_ble_eq_true q
    show A' (b + j) = A (b + j)
    exact h.1 _ (kA_r (by omega))
theorem gE_P (h : PST A F A' F') {d : Nat} (hd : d ≤ 1) (i : Nat) : gE A' F' d i = gE A F d i := by
  unfold gE
  rw [h.2 3 rfl, h.2 2 rfl, N_Y_P h, h.1 3 rfl, h.1 4 rfl, N_al_P h, N_Q_P h (by omega), h.2 (d + 8) (kF_d hd)]
theorem gP_P (h : PST A F A' F') {d : Nat} (hd : d ≤ 1) (p : Nat) : gP A' F' d p = gP A F d p := by
  unfold gP
  rw [h.2 3 rfl, h.2 2 rfl, N_Y_P h, h.1 3 rfl, h.1 4 rfl, N_al_P h, N_Q_P h (by omega), h.2 (d + 8) (kF_d hd)]
variable {c : Int}
theorem gE_sm (hR : REL c A F) {d : Nat} (hd : (d : Int) < F 0) : sm (fun i => gE A F d i) (F (d + 8)).toNat = N_Y A F d := T_te_sm (D_any hR d hd).1
theorem gP_sm (hR : REL c A F) {d : Nat} (hd : (d : Int) < F 0) : sm (fun p => gP A F d p) (F 3).toNat = sm (fun i => if rd (N_Q A (21 + 9 * d) 0) i = 1 ∨ rd (N_Q A (21 + 9 * d) 0) i = 2 then gE A F d i else 0) (F (d + 8)).toNat := T_tp_sm (D_any hR d hd).1
theorem gE_nn (hR : REL c A F) {d : Nat} (hd : (d : Int) < F 0) (h12 : s12 (N_Q A (21 + 9 * d)) (F (d + 8)).toNat ≤ 12) (i : Nat) (hi : i < (F (d + 8)).toNat) : 0 ≤ gE A F d i :=
  T_te_nn (N_Y_bd hR ⟨by omega, by have := hR.2.2.2.2.1.1.2; omega⟩) (D_any hR d hd).1 (N_al_01 hR) (R_TR hR) (R_n30 hR) h12 i hi
theorem gL_le (hR : REL c A F) {d : Nat} (hd : (d : Int) < F 0) : T_lo (F 3).toNat (F 2) (N_Y A F d) (A 3) (A 4) (N_al A F) (N_Q A (21 + 9 * d)) (F (d + 8)).toNat ≤ N_Y A F d :=
  (T_lo_le (N_Y_bd hR ⟨by omega, by have := hR.2.2.2.2.1.1.2; omega⟩) (D_any hR d hd).1).2
theorem gH_sm (hR : REL c A F) {d : Nat} (hd : (d : Int) < F 0) : sm (fun h => gH A F d h) 8 = sm (fun i => if rd (N_Q A (21 + 9 * d) 0) i = 0 ∨ rd (N_Q A (21 + 9 * d) 0) i = 3 then gE A F d i else 0) (F (d + 8)).toNat := by
  have hQ := (D_any hR d hd).1
  have e1 : sm (fun h : Nat => gH A F d h) 8 = sm (fun i => sm (fun h : Nat => gHi A F d h i) 8) (F (d + 8)).toNat := sm_swap (fun i h => gHi A F d (h : Int) i) (F (d + 8)).toNat 8
  rw [e1]
  refine sm_congr _ (fun i hi => ?_)
  have hQi := hQ.2.2.2 i hi
  (try dsimp only)
  by_cases q : rd (N_Q A (21 + 9 * d) 0) i = 0 ∨ rd (N_Q A (21 + 9 * d) 0) i = 3
  · have q3 := hQi.2.2.2.2.2.1 q
    rw [if_pos q, sm_one (p := (rd (N_Q A (21 + 9 * d) 3) i).toNat) 8 (by omega) (fun h _ hh => by
      (try dsimp only)
      unfold gHi
      exact if_neg (fun z => by have := z.2; omega))]
    unfold gHi
    exact if_pos ⟨q, by omega⟩
  · rw [if_neg q]
    exact sm_zero 8 (fun h _ => by
      (try dsimp only)
      unfold gHi
      exact if_neg (fun z => q z.1))
theorem all_sm (hR : REL c A F) {d : Nat} (hd : (d : Int) < F 0) : sm (fun p => gP A F d p) (F 3).toNat + sm (fun h => gH A F d h) 8 = N_Y A F d := by
  have hQ := (D_any hR d hd).1
  rw [gP_sm hR hd, gH_sm hR hd, ← sm_add, ← gE_sm hR hd]
  refine sm_congr _ (fun i hi => ?_)
  have hQi := (hQ.2.2.2 i hi).1
  (try dsimp only)
  by_cases q : rd (N_Q A (21 + 9 * d) 0) i = 0 ∨ rd (N_Q A (21 + 9 * d) 0) i = 3
  · rw [if_pos q, if_neg (by omega), Int.zero_add]
  · rw [if_neg q, if_pos (by omega), Int.add_zero]
theorem sm_1 (g : Nat → Int) : sm g 1 = g 0 := by
  show 0 + g 0 = g 0
  omega
theorem sm_2 (g : Nat → Int) : sm g 2 = g 0 + g 1 := by
  show 0 + g 0 + g 1 = g 0 + g 1
  omega
/-- behind a year all accounts are more by just what was yielded -/
theorem tot_run (hR : REL c A F) (hF : F 0 = 2) : sm (fun p => aP A F 1 p) (F 3).toNat + sm (fun h => aH A F 1 h) 8 = sm (fun p => rd (A 84) p) (F 3).toNat + sm (fun h => rd (A 85) h) 8 + (N_Y A F 0 + N_Y A F 1) := by
  have e2 : (F 0).toNat = 2 := by rw [hF]; rfl
  have ey : u F 2 (F 2 + ((0 : Nat) : Int)) = F := by rw [show F 2 + ((0 : Nat) : Int) = F 2 by omega]; exact u_id F 2
  have e3 : sm (fun p : Nat => aP A F 1 p) (F 3).toNat = sm (fun p : Nat => rd (A 84) p + (gP A F 0 p + gP A F 1 p)) (F 3).toNat := sm_congr _ (fun p hp => by
    (try dsimp only)
    unfold aP
    rw [if_pos hp, sm_1]
    unfold yP
    rw [e2, sm_2, ey])
  have e4 : sm (fun h : Nat => aH A F 1 h) 8 = sm (fun h : Nat => rd (A 85) h + (gH A F 0 h + gH A F 1 h)) 8 := sm_congr _ (fun p hp => by
    (try dsimp only)
    unfold aH
    rw [sm_1]
    unfold yH
    rw [e2, sm_2, ey])
  have a0 : sm (gP A F 0) (F 3).toNat + sm (fun h : Nat => gH A F 0 h) 8 = N_Y A F 0 := all_sm hR (d := 0) (by omega)
  have a1 : sm (gP A F 1) (F 3).toNat + sm (fun h : Nat => gH A F 1 h) 8 = N_Y A F 1 := all_sm hR (d := 1) (by omega)
  rw [e3, e4, sm_add, sm_add, sm_add, sm_add]
  omega
end
