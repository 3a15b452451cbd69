/-! the law's own helper, and how the book is built -/
theorem bnd_ex (x m : Int) (hm : 0 ≤ m ∧ m < 2147483648) : ∃ z, bnd x m = z ∧ 0 ≤ z ∧ z ≤ m := by
  refine ⟨_, rfl, ?_⟩
  unfold bnd
  have hb : ((Int32.ofInt m).toBitVec.toNat : Int) = m := by
    rw [am_toNat, am_ofI ⟨by omega, by omega⟩]
    omega
  have hab : (Int32.ofInt x &&& Int32.ofInt m).toBitVec.toNat ≤ (Int32.ofInt m).toBitVec.toNat := by
    rw [Int32.toBitVec_and, BitVec.toNat_and]
    exact Nat.and_le_right
  have ht := am_toNat (Int32.ofInt x &&& Int32.ofInt m)
  have hr := am_rng (Int32.ofInt x &&& Int32.ofInt m)
  omega
theorem mod_ex (x y : Int) (h : 0 < y) : ∃ z, x % y = z ∧ 0 ≤ z ∧ z < y := ⟨_, rfl, Int.emod_nonneg _ (by omega), Int.emod_lt_of_pos _ h⟩
def BI (sc : List Int) (c : Int) (A : Nat → List Int) (F : Nat → Int) : Prop := REL c A F ∧ A 0 = sc ∧ F 2 = 0 ∧ A 84 = initA sc 84 ∧ A 85 = initA sc 85
def BL (A : Nat → List Int) (F : Nat → Int) (A' : Nat → List Int) (F' : Nat → Int) : Prop := A' 21 = A 21 ∧ A' 22 = A 22 ∧ A' 30 = A 30 ∧ A' 31 = A 31 ∧ F' 8 = F 8 ∧ F' 9 = F 9
def S0 (A : Nat → List Int) (F : Nat → Int) : Prop := sm (fun j : Nat => if rd (A 21) j = 1 then rd (A 22) j else 0) (F 8).toNat ≤ 12
def S1 (A : Nat → List Int) (F : Nat → Int) : Prop := sm (fun j : Nat => if rd (A 30) j = 1 then rd (A 31) j else 0) (F 9).toNat ≤ 12
section
variable {sc : List Int} {c : Int} {A A' A2 : Nat → List Int} {F F' F2 : Nat → Int}
theorem BI_K (h : BI sc c A F) (hR : REL (c + 1) A' F') (e : A' 0 = A 0) (hk : KP A F A' F') : BI sc (c + 1) A' F' ∧ F' 0 = F 0 ∧ F 3 ≤ F' 3 ∧ BL A F A' F' :=
  ⟨⟨hR, e.trans h.2.1, hk.1.trans h.2.2.1, hk.2.1.trans h.2.2.2.1, hk.2.2.1.trans h.2.2.2.2⟩, hk.2.2.2.1, hk.2.2.2.2.1, hk.2.2.2.2.2⟩
theorem BL_0 : BL A F A F := ⟨rfl, rfl, rfl, rfl, rfl, rfl⟩
theorem BL_tr (h : BL A F A' F') (g : BL A' F' A2 F2) : BL A F A2 F2 := ⟨g.1.trans h.1, g.2.1.trans h.2.1, g.2.2.1.trans h.2.2.1, g.2.2.2.1.trans h.2.2.2.1, g.2.2.2.2.1.trans h.2.2.2.2.1, g.2.2.2.2.2.trans h.2.2.2.2.2⟩
theorem S0_L (h : BL A F A' F') (s : S0 A F) : S0 A' F' := by
  unfold S0 at s ⊢
  rw [h.1, h.2.1, h.2.2.2.2.1]
  exact s
theorem S1_L (h : BL A F A' F') (s : S1 A F) : S1 A' F' := by
  unfold S1 at s ⊢
  rw [h.2.2.1, h.2.2.2.1, h.2.2.2.2.2]
  exact s
/-- while a text is fed -/
def JW (sc : List Int) (c : Int) (A0 : Nat → List Int) (F0 : Nat → Int) (k : Nat) (G : AG) : Prop := ∃ (A : Nat → List Int) (F : Nat → Int), BI sc (c + k) A F ∧ G = LAY (shA A) (shF F) ∧ F 0 = F0 0 ∧ F0 3 ≤ F 3 ∧ BL A0 F0 A F
theorem JW_0 (h : BI sc c A F) : JW sc c A F 0 (LAY (shA A) (shF F)) := ⟨A, F, by rw [show c + ((0 : Nat) : Int) = c by omega]; exact h, rfl, rfl, Int.le_refl _, BL_0⟩
theorem JW_ob {k : Nat} {G : AG} (h : JW sc c A F k G) : ∃ fs, nth G 1 = some (.inl (6, fs)) := by
  obtain ⟨A', F', -, rfl, -⟩ := h
  exact ⟨_, rfl⟩
theorem JW_st (hc : c ≤ 10000) {k : Nat} {ch : Int} {G : AG} (hk : k < 120) (h0 : 0 ≤ ch) (h1 : ch ≤ 255) (h : JW sc c A F k G) : R 70 (0, L0 70 [vR 1, vI ch, vI 1], [], G, 0, 0) (fun r G' => (∃ z, r = some (vI z)) ∧ JW sc c A F (k + 1) G') := by
  obtain ⟨A1, F1, hB, rfl, z, y, hL⟩ := h
  refine R_mono (op_feed hB.1 (by omega) ch 1 ⟨by omega, by omega⟩ ⟨by decide, by decide⟩) (fun r G hp => ?_)
  obtain ⟨x, A2, F2, hR, rfl, rfl, e, hE⟩ := hp
  obtain ⟨hB2, z2, y2, hL2⟩ := BI_K hB hR e hE.1
  exact ⟨⟨x, rfl⟩, A2, F2, by rw [show c + ((k + 1 : Nat) : Int) = c + k + 1 by push_cast; omega]; exact hB2, rfl, z2.trans z, Int.le_trans y y2, BL_tr hL hL2⟩
def JT (sc : List Int) (c : Int) (A0 : Nat → List Int) (F0 : Nat → Int) (k : Nat) (G : AG) : Prop := ∃ (A : Nat → List Int) (F : Nat → Int), BI sc (c + k) A F ∧ G = LAY (shA A) (shF F) ∧ F 0 = F0 0 ∧ F0 3 ≤ F 3 ∧ BL A0 F0 A F ∧ F 5 = k ∧ ∀ j : Nat, j < k → rd (A 18) j = lt_ch.getD j 0
theorem JT_0 (h : BI sc c A F) (h5 : F 5 = 0) : JT sc c A F 0 (LAY (shA A) (shF F)) := ⟨A, F, by rw [show c + ((0 : Nat) : Int) = c by omega]; exact h, rfl, rfl, Int.le_refl _, BL_0, h5, fun j hj => absurd hj (Nat.not_lt_zero j)⟩
theorem JT_ob {k : Nat} {G : AG} (h : JT sc c A F k G) : ∃ fs, nth G 1 = some (.inl (6, fs)) := by
  obtain ⟨A', F', -, rfl, -⟩ := h
  exact ⟨_, rfl⟩
theorem lt_b : ∀ k, k < 23 → 0 ≤ lt_ch.getD k 0 ∧ lt_ch.getD k 0 ≤ 255 := by decide
theorem JT_st (hc : c ≤ 10000) {k : Nat} {G : AG} (hk : k < 23) (h : JT sc c A F k G) : R 70 (0, L0 70 [vR 1, vI (lt_ch.getD k 0), vI 1], [], G, 0, 0) (fun r G' => (∃ z, r = some (vI z)) ∧ JT sc c A F (k + 1) G') := by
  obtain ⟨A1, F1, hB, rfl, z, y, hL, h5, h18⟩ := h
  have hb := lt_b k hk
  refine R_mono (op_feed hB.1 (by omega) (lt_ch.getD k 0) 1 ⟨by omega, by omega⟩ ⟨by decide, by decide⟩) (fun r G hp => ?_)
  obtain ⟨x, A2, F2, hR, rfl, rfl, e, hE⟩ := hp
  obtain ⟨hB2, z2, y2, hL2⟩ := BI_K hB hR e hE.1
  obtain ⟨g5, g18⟩ := hE.2 rfl hb.1 hb.2 (by omega)
  have hl : (A1 18).length = 120 := hB.1.1 18 (by decide)
  refine ⟨⟨x, rfl⟩, A2, F2, by rw [show c + ((k + 1 : Nat) : Int) = c + k + 1 by push_cast; omega]; exact hB2, rfl, z2.trans z, Int.le_trans y y2, BL_tr hL hL2, by rw [g5, h5]; push_cast; omega, fun j hj => ?_⟩
  rw [g18, h5, rd_wr (by omega) (by rw [hl]; omega) (by omega)]
  by_cases q : j = k
  · rw [if_pos (by rw [q]), q]
  · rw [if_neg (by omega)]
    exact h18 j (by omega)
end
theorem at_ok {A : Nat → List Int} {F : Nat → Int} (hlen : (A 0).length ≤ 2560) (hsc : ∀ z ∈ A 0, inI z) (k : Int) (hk : 0 ≤ k) : R 170 (0, L0 170 [vR 0, vI k], [], LAY (shA A) (shF F), 0, 0) (fun r G => ∃ v, inI v ∧ r = some (vI v) ∧ G = LAY (shA A) (shF F)) := by
  refine R_s (P := ((A 0).length ≤ 2560) ∧ True) (f' := (3, [some (vR 0), some (vI k)], [vI ((A 0).length : Int), vI k], LAY (shA A) (shF F), 0, 0)) hc170 3 rfl ⟨hlen, trivial⟩ ?_
  refine R_ic (t := 12) hc170 rfl rfl (fun (c1 : ((A 0).length : Int) ≤ k) => ?_) (fun (c1 : ¬ (((A 0).length : Int) ≤ k)) => ?_)
  · refine R_s (P := True) (f' := (13, [some (vR 0), some (vI k)], [vI 0], LAY (shA A) (shF F), 0, 0)) hc170 1 rfl trivial ?_
    exact R_reti hc170 rfl rfl ⟨0, ⟨by decide, by decide⟩, rfl, rfl⟩
  · refine R_s (P := (0 ≤ k ∧ k < ((A 0).length : Int)) ∧ True) (f' := (13, [some (vR 0), some (vI k)], [vI (rd (A 0) k)], LAY (shA A) (shF F), 0, 0)) hc170 4 rfl ⟨⟨by omega, by omega⟩, trivial⟩ ?_
    exact R_reti hc170 rfl rfl ⟨rd (A 0) k, rd_in hsc _, rfl, rfl⟩

theorem b_p {sc : List Int} {post : Option AV → AG → Prop} {n : Int} (hn : 2 ≤ n ∧ n ≤ 7) (hlen : sc.length ≤ 260) (hsc : ∀ z ∈ sc, inI z) (hk : ∀ (p c : Int) (A : Nat → List Int) (F : Nat → Int) (a4 a5 a6 : Option AV), 0 ≤ c → c ≤ 60 → BI sc c A F → F 0 = 0 → 1 ≤ F 3 → R 171 (166, [some (vR 0), some (vR 1), some (vI n), some (vI p), a4, a5, a6], [], LAY (shA A) (shF F), 87, 1141) post) : ∀ (m : Nat) (p c : Int) (A : Nat → List Int) (F : Nat → Int) (a4 a5 a6 : Option AV), n - p < m → 0 ≤ p → p ≤ n → 0 ≤ c → c ≤ 6 * p → BI sc c A F → F 0 = 0 → (p = 0 ∧ F 3 = 0 ∨ 1 ≤ F 3 ∧ 1 ≤ p) → R 171 (24, [some (vR 0), some (vR 1), some (vI n), some (vI p), a4, a5, a6], [], LAY (shA A) (shF F), 87, 1141) post := by
  intro m
  induction m with
  | zero =>
    intro p c A F a4 a5 a6 hm h0 h1 h0c hc hB hF0 hF3
    exact absurd hm (by push_cast; omega)
  | succ m ih =>
    intro p c A F a4 a5 a6 hm h0 h1 h0c hc hB hF0 hF3
    refine R_s (P := True) (f' := (26, [some (vR 0), some (vR 1), some (vI n), some (vI p), a4, a5, a6], [vI n, vI p], LAY (shA A) (shF F), 87, 1141)) hc171 2 rfl trivial ?_
    refine R_ic (t := 166) hc171 rfl rfl (fun (c1 : n ≤ p) => ?_) (fun (c1 : ¬ (n ≤ p)) => ?_)
    · exact hk p c A F _ _ _ h0c (by omega) hB hF0 (by omega)
    · refine R_s (P := inI (1 + p) ∧ True) (f' := (33, [some (vR 0), some (vR 1), some (vI n), some (vI p), a4, a5, a6], [vI (1 + p), vR 0], LAY (shA A) (shF F), 87, 1141)) hc171 4 rfl ⟨⟨by omega, by omega⟩, trivial⟩ ?_
      refine R_cs hc171 rfl rfl (at_ok (by rw [hB.2.1]; omega) (by rw [hB.2.1]; exact hsc) (1 + p) (by omega)) (fun r G9 hp9 => ?_)
      obtain ⟨v1, hv1, rfl, rfl⟩ := hp9
      unfold inI at hv1
      refine R_s (f' := (36, [some (vR 0), some (vR 1), some (vI n), some (vI p), a4, a5, a6], [vI v1], LAY (shA A) (shF F), 87, 1141)) hc171 0 rfl trivial ?_
      refine R_s (P := True) (f' := (39, [some (vR 0), some (vR 1), some (vI n), some (vI p), some (vI v1), a5, a6], [vI p], LAY (shA A) (shF F), 87, 1141)) hc171 2 rfl trivial ?_
      refine R_if (t := 46) hc171 rfl rfl (fun (c2 : ¬ p = 0) => ?_) (fun (c2 : ¬ (¬ p = 0)) => ?_)
      · refine R_s (P := True) (f' := (50, [some (vR 0), some (vR 1), some (vI n), some (vI p), some (vI v1), a5, a6], [vI 7, vI v1], LAY (shA A) (shF F), 87, 1141)) hc171 2 rfl trivial ?_
        refine R_s (P := True) (f' := (51, [some (vR 0), some (vR 1), some (vI n), some (vI p), some (vI v1), a5, a6], [vI (bnd v1 7)], LAY (shA A) (shF F), 87, 1141)) hc171 1 rfl trivial ?_
        obtain ⟨z2, hz2, hz2a, hz2b⟩ := bnd_ex (v1) (7) ⟨by decide, by decide⟩
        rw [hz2]
        refine R_s (P := inI (p + 1) ∧ True) (f' := (54, [some (vR 0), some (vR 1), some (vI n), some (vI p), some (vI v1), a5, a6], [vI (p + 1), vI z2], LAY (shA A) (shF F), 87, 1141)) hc171 3 rfl ⟨⟨by omega, by omega⟩, trivial⟩ ?_
        refine R_s (P := (0 ≤ z2 ∧ 0 < p + 1) ∧ True) (f' := (55, [some (vR 0), some (vR 1), some (vI n), some (vI p), some (vI v1), a5, a6], [vI (z2 % (p + 1))], LAY (shA A) (shF F), 87, 1141)) hc171 1 rfl ⟨⟨by omega, by omega⟩, trivial⟩ ?_
        obtain ⟨z3, hz3, hz3a, hz3b⟩ := mod_ex (z2) (p + 1) (by omega)
        rw [hz3]
        refine R_s (P := inI (z3 - 1) ∧ True) (f' := (62, [some (vR 0), some (vR 1), some (vI n), some (vI p), some (vI v1), some (vI (z3 - 1)), a6], [vI (-1), vI (z3 - 1)], LAY (shA A) (shF F), 87, 1141)) hc171 5 rfl ⟨⟨by omega, by omega⟩, trivial⟩ ?_
        refine R_ic (t := 69) hc171 rfl rfl (fun (c3 : ¬ z3 - 1 = (-1)) => ?_) (fun (c3 : ¬ (¬ z3 - 1 = (-1))) => ?_)
        · refine R_s (P := True) (f' := (73, [some (vR 0), some (vR 1), some (vI n), some (vI p), some (vI v1), some (vI (z3 - 1)), a6], [vI 1, vI (z3 - 1), vR 1], LAY (shA A) (shF F), 87, 1141)) hc171 3 rfl trivial ?_
          refine R_cv hc171 rfl rfl (op_look hB.1 (by omega) (z3 - 1) (1) ⟨by omega, by omega⟩ ⟨by decide, by decide⟩) (fun r G9 hp9 => ?_)
          obtain ⟨x4, A4, F4, hR4, rfl, rfl, e4, hE4⟩ := hp9
          obtain ⟨hB4, hy4, hw4, hL4⟩ := BI_K hB hR4 e4 (PST_KP hE4.1)
          have hX4 := hE4.2 rfl
          refine R_s (f' := (76, [some (vR 0), some (vR 1), some (vI n), some (vI p), some (vI v1), some (vI (z3 - 1)), a6], [vI x4], LAY (shA A4) (shF F4), 87, 1141)) hc171 0 rfl trivial ?_
          refine R_s (P := (0 ≤ 3 ∧ 3 < 32) ∧ True) (f' := (88, [some (vR 0), some (vR 1), some (vI n), some (vI p), some (vI v1), some (vI (z3 - 1)), some (vI x4)], [vI 3, vI (v1 / 2 ^ (3 : Int).toNat), vI x4, vI (z3 - 1), vR 1], LAY (shA A4) (shF F4), 87, 1141)) hc171 8 rfl ⟨⟨by omega, by omega⟩, trivial⟩ ?_
          refine R_s (P := True) (f' := (89, [some (vR 0), some (vR 1), some (vI n), some (vI p), some (vI v1), some (vI (z3 - 1)), some (vI x4)], [vI (bnd (v1 / 2 ^ (3 : Int).toNat) 3), vI x4, vI (z3 - 1), vR 1], LAY (shA A4) (shF F4), 87, 1141)) hc171 1 rfl trivial ?_
          obtain ⟨z5, hz5, hz5a, hz5b⟩ := bnd_ex (v1 / 2 ^ (3 : Int).toNat) (3) ⟨by decide, by decide⟩
          rw [hz5]
          refine R_s (P := inI (x4 + z5) ∧ True) (f' := (90, [some (vR 0), some (vR 1), some (vI n), some (vI p), some (vI v1), some (vI (z3 - 1)), some (vI x4)], [vI (x4 + z5), vI (z3 - 1), vR 1], LAY (shA A4) (shF F4), 87, 1141)) hc171 1 rfl ⟨⟨by omega, by omega⟩, trivial⟩ ?_
          refine R_cv hc171 rfl rfl (op_person hB4.1 (by omega) (z3 - 1) (x4 + z5) ⟨by omega, by omega⟩ ⟨by omega, by omega⟩) (fun r G9 hp9 => ?_)
          obtain ⟨x6, A6, F6, hR6, rfl, rfl, e6, hE6⟩ := hp9
          obtain ⟨hB6, hy6, hw6, hL6⟩ := BI_K hB4 hR6 e6 hE6.1
          refine R_s (f' := (93, [some (vR 0), some (vR 1), some (vI n), some (vI p), some (vI v1), some (vI (z3 - 1)), some (vI x4)], [vI x6], LAY (shA A6) (shF F6), 87, 1141)) hc171 0 rfl trivial ?_
          refine R_s (P := True) (f' := (98, [some (vR 0), some (vR 1), some (vI n), some (vI p), some (vI v1), some (vI (z3 - 1)), some (vI x4)], [vI 32, vI v1], LAY (shA A6) (shF F6), 87, 1141)) hc171 3 rfl trivial ?_
          refine R_s (P := True) (f' := (99, [some (vR 0), some (vR 1), some (vI n), some (vI p), some (vI v1), some (vI (z3 - 1)), some (vI x4)], [vI (bnd v1 32)], LAY (shA A6) (shF F6), 87, 1141)) hc171 1 rfl trivial ?_
          obtain ⟨z7, hz7, hz7a, hz7b⟩ := bnd_ex (v1) (32) ⟨by decide, by decide⟩
          rw [hz7]
          refine R_if (t := 129) hc171 rfl rfl (fun (c4 : z7 = 0) => ?_) (fun (c4 : ¬ (z7 = 0)) => ?_)
          · refine R_s (P := True) (f' := (133, [some (vR 0), some (vR 1), some (vI n), some (vI p), some (vI v1), some (vI (z3 - 1)), some (vI x4)], [vI 64, vI v1], LAY (shA A6) (shF F6), 87, 1141)) hc171 2 rfl trivial ?_
            refine R_s (P := True) (f' := (134, [some (vR 0), some (vR 1), some (vI n), some (vI p), some (vI v1), some (vI (z3 - 1)), some (vI x4)], [vI (bnd v1 64)], LAY (shA A6) (shF F6), 87, 1141)) hc171 1 rfl trivial ?_
            obtain ⟨z8, hz8, hz8a, hz8b⟩ := bnd_ex (v1) (64) ⟨by decide, by decide⟩
            rw [hz8]
            refine R_if (t := 144) hc171 rfl rfl (fun (c5 : z8 = 0) => ?_) (fun (c5 : ¬ (z8 = 0)) => ?_)
            · refine R_s (P := True) (f' := (149, [some (vR 0), some (vR 1), some (vI n), some (vI p), some (vI v1), some (vI (z3 - 1)), some (vI x4)], [vI 512, vI v1], LAY (shA A6) (shF F6), 87, 1141)) hc171 2 rfl trivial ?_
              refine R_s (P := True) (f' := (150, [some (vR 0), some (vR 1), some (vI n), some (vI p), some (vI v1), some (vI (z3 - 1)), some (vI x4)], [vI (bnd v1 512)], LAY (shA A6) (shF F6), 87, 1141)) hc171 1 rfl trivial ?_
              obtain ⟨z9, hz9, hz9a, hz9b⟩ := bnd_ex (v1) (512) ⟨by decide, by decide⟩
              rw [hz9]
              refine R_if (t := 160) hc171 rfl rfl (fun (c6 : z9 = 0) => ?_) (fun (c6 : ¬ (z9 = 0)) => ?_)
              · refine R_s (P := inI (p + 1) ∧ True) (f' := (24, [some (vR 0), some (vR 1), some (vI n), some (vI (p + 1)), some (vI v1), some (vI (z3 - 1)), some (vI x4)], [], LAY (shA A6) (shF F6), 87, 1141)) hc171 2 rfl ⟨⟨by omega, by omega⟩, trivial⟩ ?_
                exact ih (p + 1) _ A6 F6 _ _ _ (by push_cast at hm; omega) (by omega) (by omega) (by omega) (by omega) hB6 (by omega) (by omega)
              · refine R_s (P := True) (f' := (156, [some (vR 0), some (vR 1), some (vI n), some (vI p), some (vI v1), some (vI (z3 - 1)), some (vI x4)], [vI 1, vI p, vR 1], LAY (shA A6) (shF F6), 87, 1141)) hc171 3 rfl trivial ?_
                refine R_cv hc171 rfl rfl (op_taken hB6.1 (by omega) (p) (1) ⟨by omega, by omega⟩ ⟨by decide, by decide⟩) (fun r G9 hp9 => ?_)
                obtain ⟨x10, A10, F10, hR10, rfl, rfl, e10, hE10⟩ := hp9
                obtain ⟨hB10, hy10, hw10, hL10⟩ := BI_K hB6 hR10 e10 hE10
                refine R_s (f' := (159, [some (vR 0), some (vR 1), some (vI n), some (vI p), some (vI v1), some (vI (z3 - 1)), some (vI x4)], [vI x10], LAY (shA A10) (shF F10), 87, 1141)) hc171 0 rfl trivial ?_
                refine R_s (P := inI (p + 1) ∧ True) (f' := (24, [some (vR 0), some (vR 1), some (vI n), some (vI (p + 1)), some (vI v1), some (vI (z3 - 1)), some (vI x4)], [], LAY (shA A10) (shF F10), 87, 1141)) hc171 3 rfl ⟨⟨by omega, by omega⟩, trivial⟩ ?_
                exact ih (p + 1) _ A10 F10 _ _ _ (by push_cast at hm; omega) (by omega) (by omega) (by omega) (by omega) hB10 (by omega) (by omega)
            · refine R_s (P := True) (f' := (140, [some (vR 0), some (vR 1), some (vI n), some (vI p), some (vI v1), some (vI (z3 - 1)), some (vI x4)], [vI 1, vI p, vR 1], LAY (shA A6) (shF F6), 87, 1141)) hc171 3 rfl trivial ?_
              refine R_cv hc171 rfl rfl (op_unknown hB6.1 (by omega) (p) (1) ⟨by omega, by omega⟩ ⟨by decide, by decide⟩) (fun r G9 hp9 => ?_)
              obtain ⟨x11, A11, F11, hR11, rfl, rfl, e11, hE11⟩ := hp9
              obtain ⟨hB11, hy11, hw11, hL11⟩ := BI_K hB6 hR11 e11 hE11
              refine R_s (f' := (143, [some (vR 0), some (vR 1), some (vI n), some (vI p), some (vI v1), some (vI (z3 - 1)), some (vI x4)], [vI x11], LAY (shA A11) (shF F11), 87, 1141)) hc171 0 rfl trivial ?_
              refine R_s (P := True) (f' := (149, [some (vR 0), some (vR 1), some (vI n), some (vI p), some (vI v1), some (vI (z3 - 1)), some (vI x4)], [vI 512, vI v1], LAY (shA A11) (shF F11), 87, 1141)) hc171 3 rfl trivial ?_
              refine R_s (P := True) (f' := (150, [some (vR 0), some (vR 1), some (vI n), some (vI p), some (vI v1), some (vI (z3 - 1)), some (vI x4)], [vI (bnd v1 512)], LAY (shA A11) (shF F11), 87, 1141)) hc171 1 rfl trivial ?_
              obtain ⟨z12, hz12, hz12a, hz12b⟩ := bnd_ex (v1) (512) ⟨by decide, by decide⟩
              rw [hz12]
              refine R_if (t := 160) hc171 rfl rfl (fun (c7 : z12 = 0) => ?_) (fun (c7 : ¬ (z12 = 0)) => ?_)
              · refine R_s (P := inI (p + 1) ∧ True) (f' := (24, [some (vR 0), some (vR 1), some (vI n), some (vI (p + 1)), some (vI v1), some (vI (z3 - 1)), some (vI x4)], [], LAY (shA A11) (shF F11), 87, 1141)) hc171 2 rfl ⟨⟨by omega, by omega⟩, trivial⟩ ?_
                exact ih (p + 1) _ A11 F11 _ _ _ (by push_cast at hm; omega) (by omega) (by omega) (by omega) (by omega) hB11 (by omega) (by omega)
              · refine R_s (P := True) (f' := (156, [some (vR 0), some (vR 1), some (vI n), some (vI p), some (vI v1), some (vI (z3 - 1)), some (vI x4)], [vI 1, vI p, vR 1], LAY (shA A11) (shF F11), 87, 1141)) hc171 3 rfl trivial ?_
                refine R_cv hc171 rfl rfl (op_taken hB11.1 (by omega) (p) (1) ⟨by omega, by omega⟩ ⟨by decide, by decide⟩) (fun r G9 hp9 => ?_)
                obtain ⟨x13, A13, F13, hR13, rfl, rfl, e13, hE13⟩ := hp9
                obtain ⟨hB13, hy13, hw13, hL13⟩ := BI_K hB11 hR13 e13 hE13
                refine R_s (f' := (159, [some (vR 0), some (vR 1), some (vI n), some (vI p), some (vI v1), some (vI (z3 - 1)), some (vI x4)], [vI x13], LAY (shA A13) (shF F13), 87, 1141)) hc171 0 rfl trivial ?_
                refine R_s (P := inI (p + 1) ∧ True) (f' := (24, [some (vR 0), some (vR 1), some (vI n), some (vI (p + 1)), some (vI v1), some (vI (z3 - 1)), some (vI x4)], [], LAY (shA A13) (shF F13), 87, 1141)) hc171 3 rfl ⟨⟨by omega, by omega⟩, trivial⟩ ?_
                exact ih (p + 1) _ A13 F13 _ _ _ (by push_cast at hm; omega) (by omega) (by omega) (by omega) (by omega) hB13 (by omega) (by omega)
          · refine R_s (P := (0 ≤ 3 ∧ 3 < 32) ∧ True) (f' := (111, [some (vR 0), some (vR 1), some (vI n), some (vI p), some (vI v1), some (vI (z3 - 1)), some (vI x4)], [vI 3, vI (v1 / 2 ^ (3 : Int).toNat), vI x4, vI p, vR 1], LAY (shA A6) (shF F6), 87, 1141)) hc171 7 rfl ⟨⟨by omega, by omega⟩, trivial⟩ ?_
            refine R_s (P := True) (f' := (112, [some (vR 0), some (vR 1), some (vI n), some (vI p), some (vI v1), some (vI (z3 - 1)), some (vI x4)], [vI (bnd (v1 / 2 ^ (3 : Int).toNat) 3), vI x4, vI p, vR 1], LAY (shA A6) (shF F6), 87, 1141)) hc171 1 rfl trivial ?_
            obtain ⟨z14, hz14, hz14a, hz14b⟩ := bnd_ex (v1 / 2 ^ (3 : Int).toNat) (3) ⟨by decide, by decide⟩
            rw [hz14]
            refine R_s (P := inI (x4 + z14) ∧ (0 ≤ 6 ∧ 6 < 32) ∧ True) (f' := (120, [some (vR 0), some (vR 1), some (vI n), some (vI p), some (vI v1), some (vI (z3 - 1)), some (vI x4)], [vI 7, vI (v1 / 2 ^ (6 : Int).toNat), vI (x4 + z14), vI p, vR 1], LAY (shA A6) (shF F6), 87, 1141)) hc171 5 rfl ⟨⟨by omega, by omega⟩, ⟨by omega, by omega⟩, trivial⟩ ?_
            refine R_s (P := True) (f' := (121, [some (vR 0), some (vR 1), some (vI n), some (vI p), some (vI v1), some (vI (z3 - 1)), some (vI x4)], [vI (bnd (v1 / 2 ^ (6 : Int).toNat) 7), vI (x4 + z14), vI p, vR 1], LAY (shA A6) (shF F6), 87, 1141)) hc171 1 rfl trivial ?_
            obtain ⟨z15, hz15, hz15a, hz15b⟩ := bnd_ex (v1 / 2 ^ (6 : Int).toNat) (7) ⟨by decide, by decide⟩
            rw [hz15]
            refine R_s (P := inI ((x4 + z14) + z15) ∧ True) (f' := (122, [some (vR 0), some (vR 1), some (vI n), some (vI p), some (vI v1), some (vI (z3 - 1)), some (vI x4)], [vI ((x4 + z14) + z15), vI p, vR 1], LAY (shA A6) (shF F6), 87, 1141)) hc171 1 rfl ⟨⟨by omega, by omega⟩, trivial⟩ ?_
            refine R_cv hc171 rfl rfl (op_death hB6.1 (by omega) (p) ((x4 + z14) + z15) ⟨by omega, by omega⟩ ⟨by omega, by omega⟩) (fun r G9 hp9 => ?_)
            obtain ⟨x16, A16, F16, hR16, rfl, rfl, e16, hE16⟩ := hp9
            obtain ⟨hB16, hy16, hw16, hL16⟩ := BI_K hB6 hR16 e16 hE16
            refine R_s (f' := (125, [some (vR 0), some (vR 1), some (vI n), some (vI p), some (vI v1), some (vI (z3 - 1)), some (vI x4)], [vI x16], LAY (shA A16) (shF F16), 87, 1141)) hc171 0 rfl trivial ?_
            refine R_s (P := True) (f' := (149, [some (vR 0), some (vR 1), some (vI n), some (vI p), some (vI v1), some (vI (z3 - 1)), some (vI x4)], [vI 512, vI v1], LAY (shA A16) (shF F16), 87, 1141)) hc171 4 rfl trivial ?_
            refine R_s (P := True) (f' := (150, [some (vR 0), some (vR 1), some (vI n), some (vI p), some (vI v1), some (vI (z3 - 1)), some (vI x4)], [vI (bnd v1 512)], LAY (shA A16) (shF F16), 87, 1141)) hc171 1 rfl trivial ?_
            obtain ⟨z17, hz17, hz17a, hz17b⟩ := bnd_ex (v1) (512) ⟨by decide, by decide⟩
            rw [hz17]
            refine R_if (t := 160) hc171 rfl rfl (fun (c8 : z17 = 0) => ?_) (fun (c8 : ¬ (z17 = 0)) => ?_)
            · refine R_s (P := inI (p + 1) ∧ True) (f' := (24, [some (vR 0), some (vR 1), some (vI n), some (vI (p + 1)), some (vI v1), some (vI (z3 - 1)), some (vI x4)], [], LAY (shA A16) (shF F16), 87, 1141)) hc171 2 rfl ⟨⟨by omega, by omega⟩, trivial⟩ ?_
              exact ih (p + 1) _ A16 F16 _ _ _ (by push_cast at hm; omega) (by omega) (by omega) (by omega) (by omega) hB16 (by omega) (by omega)
            · refine R_s (P := True) (f' := (156, [some (vR 0), some (vR 1), some (vI n), some (vI p), some (vI v1), some (vI (z3 - 1)), some (vI x4)], [vI 1, vI p, vR 1], LAY (shA A16) (shF F16), 87, 1141)) hc171 3 rfl trivial ?_
              refine R_cv hc171 rfl rfl (op_taken hB16.1 (by omega) (p) (1) ⟨by omega, by omega⟩ ⟨by decide, by decide⟩) (fun r G9 hp9 => ?_)
              obtain ⟨x18, A18, F18, hR18, rfl, rfl, e18, hE18⟩ := hp9
              obtain ⟨hB18, hy18, hw18, hL18⟩ := BI_K hB16 hR18 e18 hE18
              refine R_s (f' := (159, [some (vR 0), some (vR 1), some (vI n), some (vI p), some (vI v1), some (vI (z3 - 1)), some (vI x4)], [vI x18], LAY (shA A18) (shF F18), 87, 1141)) hc171 0 rfl trivial ?_
              refine R_s (P := inI (p + 1) ∧ True) (f' := (24, [some (vR 0), some (vR 1), some (vI n), some (vI (p + 1)), some (vI v1), some (vI (z3 - 1)), some (vI x4)], [], LAY (shA A18) (shF F18), 87, 1141)) hc171 3 rfl ⟨⟨by omega, by omega⟩, trivial⟩ ?_
              exact ih (p + 1) _ A18 F18 _ _ _ (by push_cast at hm; omega) (by omega) (by omega) (by omega) (by omega) hB18 (by omega) (by omega)
        · refine R_s (P := (0 ≤ 3 ∧ 3 < 32) ∧ True) (f' := (88, [some (vR 0), some (vR 1), some (vI n), some (vI p), some (vI v1), some (vI (z3 - 1)), some (vI 0)], [vI 3, vI (v1 / 2 ^ (3 : Int).toNat), vI 0, vI (z3 - 1), vR 1], LAY (shA A) (shF F), 87, 1141)) hc171 10 rfl ⟨⟨by omega, by omega⟩, trivial⟩ ?_
          refine R_s (P := True) (f' := (89, [some (vR 0), some (vR 1), some (vI n), some (vI p), some (vI v1), some (vI (z3 - 1)), some (vI 0)], [vI (bnd (v1 / 2 ^ (3 : Int).toNat) 3), vI 0, vI (z3 - 1), vR 1], LAY (shA A) (shF F), 87, 1141)) hc171 1 rfl trivial ?_
          obtain ⟨z19, hz19, hz19a, hz19b⟩ := bnd_ex (v1 / 2 ^ (3 : Int).toNat) (3) ⟨by decide, by decide⟩
          rw [hz19]
          refine R_s (P := inI (0 + z19) ∧ True) (f' := (90, [some (vR 0), some (vR 1), some (vI n), some (vI p), some (vI v1), some (vI (z3 - 1)), some (vI 0)], [vI (0 + z19), vI (z3 - 1), vR 1], LAY (shA A) (shF F), 87, 1141)) hc171 1 rfl ⟨⟨by omega, by omega⟩, trivial⟩ ?_
          refine R_cv hc171 rfl rfl (op_person hB.1 (by omega) (z3 - 1) (0 + z19) ⟨by omega, by omega⟩ ⟨by omega, by omega⟩) (fun r G9 hp9 => ?_)
          obtain ⟨x20, A20, F20, hR20, rfl, rfl, e20, hE20⟩ := hp9
          obtain ⟨hB20, hy20, hw20, hL20⟩ := BI_K hB hR20 e20 hE20.1
          refine R_s (f' := (93, [some (vR 0), some (vR 1), some (vI n), some (vI p), some (vI v1), some (vI (z3 - 1)), some (vI 0)], [vI x20], LAY (shA A20) (shF F20), 87, 1141)) hc171 0 rfl trivial ?_
          refine R_s (P := True) (f' := (98, [some (vR 0), some (vR 1), some (vI n), some (vI p), some (vI v1), some (vI (z3 - 1)), some (vI 0)], [vI 32, vI v1], LAY (shA A20) (shF F20), 87, 1141)) hc171 3 rfl trivial ?_
          refine R_s (P := True) (f' := (99, [some (vR 0), some (vR 1), some (vI n), some (vI p), some (vI v1), some (vI (z3 - 1)), some (vI 0)], [vI (bnd v1 32)], LAY (shA A20) (shF F20), 87, 1141)) hc171 1 rfl trivial ?_
          obtain ⟨z21, hz21, hz21a, hz21b⟩ := bnd_ex (v1) (32) ⟨by decide, by decide⟩
          rw [hz21]
          refine R_if (t := 129) hc171 rfl rfl (fun (c9 : z21 = 0) => ?_) (fun (c9 : ¬ (z21 = 0)) => ?_)
          · refine R_s (P := True) (f' := (133, [some (vR 0), some (vR 1), some (vI n), some (vI p), some (vI v1), some (vI (z3 - 1)), some (vI 0)], [vI 64, vI v1], LAY (shA A20) (shF F20), 87, 1141)) hc171 2 rfl trivial ?_
            refine R_s (P := True) (f' := (134, [some (vR 0), some (vR 1), some (vI n), some (vI p), some (vI v1), some (vI (z3 - 1)), some (vI 0)], [vI (bnd v1 64)], LAY (shA A20) (shF F20), 87, 1141)) hc171 1 rfl trivial ?_
            obtain ⟨z22, hz22, hz22a, hz22b⟩ := bnd_ex (v1) (64) ⟨by decide, by decide⟩
            rw [hz22]
            refine R_if (t := 144) hc171 rfl rfl (fun (c10 : z22 = 0) => ?_) (fun (c10 : ¬ (z22 = 0)) => ?_)
            · refine R_s (P := True) (f' := (149, [some (vR 0), some (vR 1), some (vI n), some (vI p), some (vI v1), some (vI (z3 - 1)), some (vI 0)], [vI 512, vI v1], LAY (shA A20) (shF F20), 87, 1141)) hc171 2 rfl trivial ?_
              refine R_s (P := True) (f' := (150, [some (vR 0), some (vR 1), some (vI n), some (vI p), some (vI v1), some (vI (z3 - 1)), some (vI 0)], [vI (bnd v1 512)], LAY (shA A20) (shF F20), 87, 1141)) hc171 1 rfl trivial ?_
              obtain ⟨z23, hz23, hz23a, hz23b⟩ := bnd_ex (v1) (512) ⟨by decide, by decide⟩
              rw [hz23]
              refine R_if (t := 160) hc171 rfl rfl (fun (c11 : z23 = 0) => ?_) (fun (c11 : ¬ (z23 = 0)) => ?_)
              · refine R_s (P := inI (p + 1) ∧ True) (f' := (24, [some (vR 0), some (vR 1), some (vI n), some (vI (p + 1)), some (vI v1), some (vI (z3 - 1)), some (vI 0)], [], LAY (shA A20) (shF F20), 87, 1141)) hc171 2 rfl ⟨⟨by omega, by omega⟩, trivial⟩ ?_
                exact ih (p + 1) _ A20 F20 _ _ _ (by push_cast at hm; omega) (by omega) (by omega) (by omega) (by omega) hB20 (by omega) (by omega)
              · refine R_s (P := True) (f' := (156, [some (vR 0), some (vR 1), some (vI n), some (vI p), some (vI v1), some (vI (z3 - 1)), some (vI 0)], [vI 1, vI p, vR 1], LAY (shA A20) (shF F20), 87, 1141)) hc171 3 rfl trivial ?_
                refine R_cv hc171 rfl rfl (op_taken hB20.1 (by omega) (p) (1) ⟨by omega, by omega⟩ ⟨by decide, by decide⟩) (fun r G9 hp9 => ?_)
                obtain ⟨x24, A24, F24, hR24, rfl, rfl, e24, hE24⟩ := hp9
                obtain ⟨hB24, hy24, hw24, hL24⟩ := BI_K hB20 hR24 e24 hE24
                refine R_s (f' := (159, [some (vR 0), some (vR 1), some (vI n), some (vI p), some (vI v1), some (vI (z3 - 1)), some (vI 0)], [vI x24], LAY (shA A24) (shF F24), 87, 1141)) hc171 0 rfl trivial ?_
                refine R_s (P := inI (p + 1) ∧ True) (f' := (24, [some (vR 0), some (vR 1), some (vI n), some (vI (p + 1)), some (vI v1), some (vI (z3 - 1)), some (vI 0)], [], LAY (shA A24) (shF F24), 87, 1141)) hc171 3 rfl ⟨⟨by omega, by omega⟩, trivial⟩ ?_
                exact ih (p + 1) _ A24 F24 _ _ _ (by push_cast at hm; omega) (by omega) (by omega) (by omega) (by omega) hB24 (by omega) (by omega)
            · refine R_s (P := True) (f' := (140, [some (vR 0), some (vR 1), some (vI n), some (vI p), some (vI v1), some (vI (z3 - 1)), some (vI 0)], [vI 1, vI p, vR 1], LAY (shA A20) (shF F20), 87, 1141)) hc171 3 rfl trivial ?_
              refine R_cv hc171 rfl rfl (op_unknown hB20.1 (by omega) (p) (1) ⟨by omega, by omega⟩ ⟨by decide, by decide⟩) (fun r G9 hp9 => ?_)
              obtain ⟨x25, A25, F25, hR25, rfl, rfl, e25, hE25⟩ := hp9
              obtain ⟨hB25, hy25, hw25, hL25⟩ := BI_K hB20 hR25 e25 hE25
              refine R_s (f' := (143, [some (vR 0), some (vR 1), some (vI n), some (vI p), some (vI v1), some (vI (z3 - 1)), some (vI 0)], [vI x25], LAY (shA A25) (shF F25), 87, 1141)) hc171 0 rfl trivial ?_
              refine R_s (P := True) (f' := (149, [some (vR 0), some (vR 1), some (vI n), some (vI p), some (vI v1), some (vI (z3 - 1)), some (vI 0)], [vI 512, vI v1], LAY (shA A25) (shF F25), 87, 1141)) hc171 3 rfl trivial ?_
              refine R_s (P := True) (f' := (150, [some (vR 0), some (vR 1), some (vI n), some (vI p), some (vI v1), some (vI (z3 - 1)), some (vI 0)], [vI (bnd v1 512)], LAY (shA A25) (shF F25), 87, 1141)) hc171 1 rfl trivial ?_
              obtain ⟨z26, hz26, hz26a, hz26b⟩ := bnd_ex (v1) (512) ⟨by decide, by decide⟩
              rw [hz26]
              refine R_if (t := 160) hc171 rfl rfl (fun (c12 : z26 = 0) => ?_) (fun (c12 : ¬ (z26 = 0)) => ?_)
              · refine R_s (P := inI (p + 1) ∧ True) (f' := (24, [some (vR 0), some (vR 1), some (vI n), some (vI (p + 1)), some (vI v1), some (vI (z3 - 1)), some (vI 0)], [], LAY (shA A25) (shF F25), 87, 1141)) hc171 2 rfl ⟨⟨by omega, by omega⟩, trivial⟩ ?_
                exact ih (p + 1) _ A25 F25 _ _ _ (by push_cast at hm; omega) (by omega) (by omega) (by omega) (by omega) hB25 (by omega) (by omega)
              · refine R_s (P := True) (f' := (156, [some (vR 0), some (vR 1), some (vI n), some (vI p), some (vI v1), some (vI (z3 - 1)), some (vI 0)], [vI 1, vI p, vR 1], LAY (shA A25) (shF F25), 87, 1141)) hc171 3 rfl trivial ?_
                refine R_cv hc171 rfl rfl (op_taken hB25.1 (by omega) (p) (1) ⟨by omega, by omega⟩ ⟨by decide, by decide⟩) (fun r G9 hp9 => ?_)
                obtain ⟨x27, A27, F27, hR27, rfl, rfl, e27, hE27⟩ := hp9
                obtain ⟨hB27, hy27, hw27, hL27⟩ := BI_K hB25 hR27 e27 hE27
                refine R_s (f' := (159, [some (vR 0), some (vR 1), some (vI n), some (vI p), some (vI v1), some (vI (z3 - 1)), some (vI 0)], [vI x27], LAY (shA A27) (shF F27), 87, 1141)) hc171 0 rfl trivial ?_
                refine R_s (P := inI (p + 1) ∧ True) (f' := (24, [some (vR 0), some (vR 1), some (vI n), some (vI (p + 1)), some (vI v1), some (vI (z3 - 1)), some (vI 0)], [], LAY (shA A27) (shF F27), 87, 1141)) hc171 3 rfl ⟨⟨by omega, by omega⟩, trivial⟩ ?_
                exact ih (p + 1) _ A27 F27 _ _ _ (by push_cast at hm; omega) (by omega) (by omega) (by omega) (by omega) hB27 (by omega) (by omega)
          · refine R_s (P := (0 ≤ 3 ∧ 3 < 32) ∧ True) (f' := (111, [some (vR 0), some (vR 1), some (vI n), some (vI p), some (vI v1), some (vI (z3 - 1)), some (vI 0)], [vI 3, vI (v1 / 2 ^ (3 : Int).toNat), vI 0, vI p, vR 1], LAY (shA A20) (shF F20), 87, 1141)) hc171 7 rfl ⟨⟨by omega, by omega⟩, trivial⟩ ?_
            refine R_s (P := True) (f' := (112, [some (vR 0), some (vR 1), some (vI n), some (vI p), some (vI v1), some (vI (z3 - 1)), some (vI 0)], [vI (bnd (v1 / 2 ^ (3 : Int).toNat) 3), vI 0, vI p, vR 1], LAY (shA A20) (shF F20), 87, 1141)) hc171 1 rfl trivial ?_
            obtain ⟨z28, hz28, hz28a, hz28b⟩ := bnd_ex (v1 / 2 ^ (3 : Int).toNat) (3) ⟨by decide, by decide⟩
            rw [hz28]
            refine R_s (P := inI (0 + z28) ∧ (0 ≤ 6 ∧ 6 < 32) ∧ True) (f' := (120, [some (vR 0), some (vR 1), some (vI n), some (vI p), some (vI v1), some (vI (z3 - 1)), some (vI 0)], [vI 7, vI (v1 / 2 ^ (6 : Int).toNat), vI (0 + z28), vI p, vR 1], LAY (shA A20) (shF F20), 87, 1141)) hc171 5 rfl ⟨⟨by omega, by omega⟩, ⟨by omega, by omega⟩, trivial⟩ ?_
            refine R_s (P := True) (f' := (121, [some (vR 0), some (vR 1), some (vI n), some (vI p), some (vI v1), some (vI (z3 - 1)), some (vI 0)], [vI (bnd (v1 / 2 ^ (6 : Int).toNat) 7), vI (0 + z28), vI p, vR 1], LAY (shA A20) (shF F20), 87, 1141)) hc171 1 rfl trivial ?_
            obtain ⟨z29, hz29, hz29a, hz29b⟩ := bnd_ex (v1 / 2 ^ (6 : Int).toNat) (7) ⟨by decide, by decide⟩
            rw [hz29]
            refine R_s (P := inI ((0 + z28) + z29) ∧ True) (f' := (122, [some (vR 0), some (vR 1), some (vI n), some (vI p), some (vI v1), some (vI (z3 - 1)), some (vI 0)], [vI ((0 + z28) + z29), vI p, vR 1], LAY (shA A20) (shF F20), 87, 1141)) hc171 1 rfl ⟨⟨by omega, by omega⟩, trivial⟩ ?_
            refine R_cv hc171 rfl rfl (op_death hB20.1 (by omega) (p) ((0 + z28) + z29) ⟨by omega, by omega⟩ ⟨by omega, by omega⟩) (fun r G9 hp9 => ?_)
            obtain ⟨x30, A30, F30, hR30, rfl, rfl, e30, hE30⟩ := hp9
            obtain ⟨hB30, hy30, hw30, hL30⟩ := BI_K hB20 hR30 e30 hE30
            refine R_s (f' := (125, [some (vR 0), some (vR 1), some (vI n), some (vI p), some (vI v1), some (vI (z3 - 1)), some (vI 0)], [vI x30], LAY (shA A30) (shF F30), 87, 1141)) hc171 0 rfl trivial ?_
            refine R_s (P := True) (f' := (149, [some (vR 0), some (vR 1), some (vI n), some (vI p), some (vI v1), some (vI (z3 - 1)), some (vI 0)], [vI 512, vI v1], LAY (shA A30) (shF F30), 87, 1141)) hc171 4 rfl trivial ?_
            refine R_s (P := True) (f' := (150, [some (vR 0), some (vR 1), some (vI n), some (vI p), some (vI v1), some (vI (z3 - 1)), some (vI 0)], [vI (bnd v1 512)], LAY (shA A30) (shF F30), 87, 1141)) hc171 1 rfl trivial ?_
            obtain ⟨z31, hz31, hz31a, hz31b⟩ := bnd_ex (v1) (512) ⟨by decide, by decide⟩
            rw [hz31]
            refine R_if (t := 160) hc171 rfl rfl (fun (c13 : z31 = 0) => ?_) (fun (c13 : ¬ (z31 = 0)) => ?_)
            · refine R_s (P := inI (p + 1) ∧ True) (f' := (24, [some (vR 0), some (vR 1), some (vI n), some (vI (p + 1)), some (vI v1), some (vI (z3 - 1)), some (vI 0)], [], LAY (shA A30) (shF F30), 87, 1141)) hc171 2 rfl ⟨⟨by omega, by omega⟩, trivial⟩ ?_
              exact ih (p + 1) _ A30 F30 _ _ _ (by push_cast at hm; omega) (by omega) (by omega) (by omega) (by omega) hB30 (by omega) (by omega)
            · refine R_s (P := True) (f' := (156, [some (vR 0), some (vR 1), some (vI n), some (vI p), some (vI v1), some (vI (z3 - 1)), some (vI 0)], [vI 1, vI p, vR 1], LAY (shA A30) (shF F30), 87, 1141)) hc171 3 rfl trivial ?_
              refine R_cv hc171 rfl rfl (op_taken hB30.1 (by omega) (p) (1) ⟨by omega, by omega⟩ ⟨by decide, by decide⟩) (fun r G9 hp9 => ?_)
              obtain ⟨x32, A32, F32, hR32, rfl, rfl, e32, hE32⟩ := hp9
              obtain ⟨hB32, hy32, hw32, hL32⟩ := BI_K hB30 hR32 e32 hE32
              refine R_s (f' := (159, [some (vR 0), some (vR 1), some (vI n), some (vI p), some (vI v1), some (vI (z3 - 1)), some (vI 0)], [vI x32], LAY (shA A32) (shF F32), 87, 1141)) hc171 0 rfl trivial ?_
              refine R_s (P := inI (p + 1) ∧ True) (f' := (24, [some (vR 0), some (vR 1), some (vI n), some (vI (p + 1)), some (vI v1), some (vI (z3 - 1)), some (vI 0)], [], LAY (shA A32) (shF F32), 87, 1141)) hc171 3 rfl ⟨⟨by omega, by omega⟩, trivial⟩ ?_
              exact ih (p + 1) _ A32 F32 _ _ _ (by push_cast at hm; omega) (by omega) (by omega) (by omega) (by omega) hB32 (by omega) (by omega)
      · refine R_s (P := True) (f' := (62, [some (vR 0), some (vR 1), some (vI n), some (vI p), some (vI v1), some (vI (-1)), a6], [vI (-1), vI (-1)], LAY (shA A) (shF F), 87, 1141)) hc171 5 rfl trivial ?_
        refine R_ic (t := 69) hc171 rfl rfl (fun (z : ¬ (-1) = (-1)) => absurd z (by decide)) (fun (_ : ¬ (¬ (-1) = (-1))) => ?_)
        refine R_s (P := (0 ≤ 3 ∧ 3 < 32) ∧ True) (f' := (88, [some (vR 0), some (vR 1), some (vI n), some (vI p), some (vI v1), some (vI (-1)), some (vI 0)], [vI 3, vI (v1 / 2 ^ (3 : Int).toNat), vI 0, vI (-1), vR 1], LAY (shA A) (shF F), 87, 1141)) hc171 10 rfl ⟨⟨by omega, by omega⟩, trivial⟩ ?_
        refine R_s (P := True) (f' := (89, [some (vR 0), some (vR 1), some (vI n), some (vI p), some (vI v1), some (vI (-1)), some (vI 0)], [vI (bnd (v1 / 2 ^ (3 : Int).toNat) 3), vI 0, vI (-1), vR 1], LAY (shA A) (shF F), 87, 1141)) hc171 1 rfl trivial ?_
        obtain ⟨z33, hz33, hz33a, hz33b⟩ := bnd_ex (v1 / 2 ^ (3 : Int).toNat) (3) ⟨by decide, by decide⟩
        rw [hz33]
        refine R_s (P := inI (0 + z33) ∧ True) (f' := (90, [some (vR 0), some (vR 1), some (vI n), some (vI p), some (vI v1), some (vI (-1)), some (vI 0)], [vI (0 + z33), vI (-1), vR 1], LAY (shA A) (shF F), 87, 1141)) hc171 1 rfl ⟨⟨by omega, by omega⟩, trivial⟩ ?_
        refine R_cv hc171 rfl rfl (op_person hB.1 (by omega) ((-1)) (0 + z33) ⟨by decide, by decide⟩ ⟨by omega, by omega⟩) (fun r G9 hp9 => ?_)
        obtain ⟨x34, A34, F34, hR34, rfl, rfl, e34, hE34⟩ := hp9
        obtain ⟨hB34, hy34, hw34, hL34⟩ := BI_K hB hR34 e34 hE34.1
        have hX34 : F34 3 = 1 := hE34.2 (by omega) rfl (by omega) (by omega)
        refine R_s (f' := (93, [some (vR 0), some (vR 1), some (vI n), some (vI p), some (vI v1), some (vI (-1)), some (vI 0)], [vI x34], LAY (shA A34) (shF F34), 87, 1141)) hc171 0 rfl trivial ?_
        refine R_s (P := True) (f' := (98, [some (vR 0), some (vR 1), some (vI n), some (vI p), some (vI v1), some (vI (-1)), some (vI 0)], [vI 32, vI v1], LAY (shA A34) (shF F34), 87, 1141)) hc171 3 rfl trivial ?_
        refine R_s (P := True) (f' := (99, [some (vR 0), some (vR 1), some (vI n), some (vI p), some (vI v1), some (vI (-1)), some (vI 0)], [vI (bnd v1 32)], LAY (shA A34) (shF F34), 87, 1141)) hc171 1 rfl trivial ?_
        obtain ⟨z35, hz35, hz35a, hz35b⟩ := bnd_ex (v1) (32) ⟨by decide, by decide⟩
        rw [hz35]
        refine R_if (t := 129) hc171 rfl rfl (fun (c15 : z35 = 0) => ?_) (fun (c15 : ¬ (z35 = 0)) => ?_)
        · refine R_s (P := True) (f' := (133, [some (vR 0), some (vR 1), some (vI n), some (vI p), some (vI v1), some (vI (-1)), some (vI 0)], [vI 64, vI v1], LAY (shA A34) (shF F34), 87, 1141)) hc171 2 rfl trivial ?_
          refine R_s (P := True) (f' := (134, [some (vR 0), some (vR 1), some (vI n), some (vI p), some (vI v1), some (vI (-1)), some (vI 0)], [vI (bnd v1 64)], LAY (shA A34) (shF F34), 87, 1141)) hc171 1 rfl trivial ?_
          obtain ⟨z36, hz36, hz36a, hz36b⟩ := bnd_ex (v1) (64) ⟨by decide, by decide⟩
          rw [hz36]
          refine R_if (t := 144) hc171 rfl rfl (fun (c16 : z36 = 0) => ?_) (fun (c16 : ¬ (z36 = 0)) => ?_)
          · refine R_s (P := True) (f' := (149, [some (vR 0), some (vR 1), some (vI n), some (vI p), some (vI v1), some (vI (-1)), some (vI 0)], [vI 512, vI v1], LAY (shA A34) (shF F34), 87, 1141)) hc171 2 rfl trivial ?_
            refine R_s (P := True) (f' := (150, [some (vR 0), some (vR 1), some (vI n), some (vI p), some (vI v1), some (vI (-1)), some (vI 0)], [vI (bnd v1 512)], LAY (shA A34) (shF F34), 87, 1141)) hc171 1 rfl trivial ?_
            obtain ⟨z37, hz37, hz37a, hz37b⟩ := bnd_ex (v1) (512) ⟨by decide, by decide⟩
            rw [hz37]
            refine R_if (t := 160) hc171 rfl rfl (fun (c17 : z37 = 0) => ?_) (fun (c17 : ¬ (z37 = 0)) => ?_)
            · refine R_s (P := inI (p + 1) ∧ True) (f' := (24, [some (vR 0), some (vR 1), some (vI n), some (vI (p + 1)), some (vI v1), some (vI (-1)), some (vI 0)], [], LAY (shA A34) (shF F34), 87, 1141)) hc171 2 rfl ⟨⟨by omega, by omega⟩, trivial⟩ ?_
              exact ih (p + 1) _ A34 F34 _ _ _ (by push_cast at hm; omega) (by omega) (by omega) (by omega) (by omega) hB34 (by omega) (by omega)
            · refine R_s (P := True) (f' := (156, [some (vR 0), some (vR 1), some (vI n), some (vI p), some (vI v1), some (vI (-1)), some (vI 0)], [vI 1, vI p, vR 1], LAY (shA A34) (shF F34), 87, 1141)) hc171 3 rfl trivial ?_
              refine R_cv hc171 rfl rfl (op_taken hB34.1 (by omega) (p) (1) ⟨by omega, by omega⟩ ⟨by decide, by decide⟩) (fun r G9 hp9 => ?_)
              obtain ⟨x38, A38, F38, hR38, rfl, rfl, e38, hE38⟩ := hp9
              obtain ⟨hB38, hy38, hw38, hL38⟩ := BI_K hB34 hR38 e38 hE38
              refine R_s (f' := (159, [some (vR 0), some (vR 1), some (vI n), some (vI p), some (vI v1), some (vI (-1)), some (vI 0)], [vI x38], LAY (shA A38) (shF F38), 87, 1141)) hc171 0 rfl trivial ?_
              refine R_s (P := inI (p + 1) ∧ True) (f' := (24, [some (vR 0), some (vR 1), some (vI n), some (vI (p + 1)), some (vI v1), some (vI (-1)), some (vI 0)], [], LAY (shA A38) (shF F38), 87, 1141)) hc171 3 rfl ⟨⟨by omega, by omega⟩, trivial⟩ ?_
              exact ih (p + 1) _ A38 F38 _ _ _ (by push_cast at hm; omega) (by omega) (by omega) (by omega) (by omega) hB38 (by omega) (by omega)
          · refine R_s (P := True) (f' := (140, [some (vR 0), some (vR 1), some (vI n), some (vI p), some (vI v1), some (vI (-1)), some (vI 0)], [vI 1, vI p, vR 1], LAY (shA A34) (shF F34), 87, 1141)) hc171 3 rfl trivial ?_
            refine R_cv hc171 rfl rfl (op_unknown hB34.1 (by omega) (p) (1) ⟨by omega, by omega⟩ ⟨by decide, by decide⟩) (fun r G9 hp9 => ?_)
            obtain ⟨x39, A39, F39, hR39, rfl, rfl, e39, hE39⟩ := hp9
            obtain ⟨hB39, hy39, hw39, hL39⟩ := BI_K hB34 hR39 e39 hE39
            refine R_s (f' := (143, [some (vR 0), some (vR 1), some (vI n), some (vI p), some (vI v1), some (vI (-1)), some (vI 0)], [vI x39], LAY (shA A39) (shF F39), 87, 1141)) hc171 0 rfl trivial ?_
            refine R_s (P := True) (f' := (149, [some (vR 0), some (vR 1), some (vI n), some (vI p), some (vI v1), some (vI (-1)), some (vI 0)], [vI 512, vI v1], LAY (shA A39) (shF F39), 87, 1141)) hc171 3 rfl trivial ?_
            refine R_s (P := True) (f' := (150, [some (vR 0), some (vR 1), some (vI n), some (vI p), some (vI v1), some (vI (-1)), some (vI 0)], [vI (bnd v1 512)], LAY (shA A39) (shF F39), 87, 1141)) hc171 1 rfl trivial ?_
            obtain ⟨z40, hz40, hz40a, hz40b⟩ := bnd_ex (v1) (512) ⟨by decide, by decide⟩
            rw [hz40]
            refine R_if (t := 160) hc171 rfl rfl (fun (c18 : z40 = 0) => ?_) (fun (c18 : ¬ (z40 = 0)) => ?_)
            · refine R_s (P := inI (p + 1) ∧ True) (f' := (24, [some (vR 0), some (vR 1), some (vI n), some (vI (p + 1)), some (vI v1), some (vI (-1)), some (vI 0)], [], LAY (shA A39) (shF F39), 87, 1141)) hc171 2 rfl ⟨⟨by omega, by omega⟩, trivial⟩ ?_
              exact ih (p + 1) _ A39 F39 _ _ _ (by push_cast at hm; omega) (by omega) (by omega) (by omega) (by omega) hB39 (by omega) (by omega)
            · refine R_s (P := True) (f' := (156, [some (vR 0), some (vR 1), some (vI n), some (vI p), some (vI v1), some (vI (-1)), some (vI 0)], [vI 1, vI p, vR 1], LAY (shA A39) (shF F39), 87, 1141)) hc171 3 rfl trivial ?_
              refine R_cv hc171 rfl rfl (op_taken hB39.1 (by omega) (p) (1) ⟨by omega, by omega⟩ ⟨by decide, by decide⟩) (fun r G9 hp9 => ?_)
              obtain ⟨x41, A41, F41, hR41, rfl, rfl, e41, hE41⟩ := hp9
              obtain ⟨hB41, hy41, hw41, hL41⟩ := BI_K hB39 hR41 e41 hE41
              refine R_s (f' := (159, [some (vR 0), some (vR 1), some (vI n), some (vI p), some (vI v1), some (vI (-1)), some (vI 0)], [vI x41], LAY (shA A41) (shF F41), 87, 1141)) hc171 0 rfl trivial ?_
              refine R_s (P := inI (p + 1) ∧ True) (f' := (24, [some (vR 0), some (vR 1), some (vI n), some (vI (p + 1)), some (vI v1), some (vI (-1)), some (vI 0)], [], LAY (shA A41) (shF F41), 87, 1141)) hc171 3 rfl ⟨⟨by omega, by omega⟩, trivial⟩ ?_
              exact ih (p + 1) _ A41 F41 _ _ _ (by push_cast at hm; omega) (by omega) (by omega) (by omega) (by omega) hB41 (by omega) (by omega)
        · refine R_s (P := (0 ≤ 3 ∧ 3 < 32) ∧ True) (f' := (111, [some (vR 0), some (vR 1), some (vI n), some (vI p), some (vI v1), some (vI (-1)), some (vI 0)], [vI 3, vI (v1 / 2 ^ (3 : Int).toNat), vI 0, vI p, vR 1], LAY (shA A34) (shF F34), 87, 1141)) hc171 7 rfl ⟨⟨by omega, by omega⟩, trivial⟩ ?_
          refine R_s (P := True) (f' := (112, [some (vR 0), some (vR 1), some (vI n), some (vI p), some (vI v1), some (vI (-1)), some (vI 0)], [vI (bnd (v1 / 2 ^ (3 : Int).toNat) 3), vI 0, vI p, vR 1], LAY (shA A34) (shF F34), 87, 1141)) hc171 1 rfl trivial ?_
          obtain ⟨z42, hz42, hz42a, hz42b⟩ := bnd_ex (v1 / 2 ^ (3 : Int).toNat) (3) ⟨by decide, by decide⟩
          rw [hz42]
          refine R_s (P := inI (0 + z42) ∧ (0 ≤ 6 ∧ 6 < 32) ∧ True) (f' := (120, [some (vR 0), some (vR 1), some (vI n), some (vI p), some (vI v1), some (vI (-1)), some (vI 0)], [vI 7, vI (v1 / 2 ^ (6 : Int).toNat), vI (0 + z42), vI p, vR 1], LAY (shA A34) (shF F34), 87, 1141)) hc171 5 rfl ⟨⟨by omega, by omega⟩, ⟨by omega, by omega⟩, trivial⟩ ?_
          refine R_s (P := True) (f' := (121, [some (vR 0), some (vR 1), some (vI n), some (vI p), some (vI v1), some (vI (-1)), some (vI 0)], [vI (bnd (v1 / 2 ^ (6 : Int).toNat) 7), vI (0 + z42), vI p, vR 1], LAY (shA A34) (shF F34), 87, 1141)) hc171 1 rfl trivial ?_
          obtain ⟨z43, hz43, hz43a, hz43b⟩ := bnd_ex (v1 / 2 ^ (6 : Int).toNat) (7) ⟨by decide, by decide⟩
          rw [hz43]
          refine R_s (P := inI ((0 + z42) + z43) ∧ True) (f' := (122, [some (vR 0), some (vR 1), some (vI n), some (vI p), some (vI v1), some (vI (-1)), some (vI 0)], [vI ((0 + z42) + z43), vI p, vR 1], LAY (shA A34) (shF F34), 87, 1141)) hc171 1 rfl ⟨⟨by omega, by omega⟩, trivial⟩ ?_
          refine R_cv hc171 rfl rfl (op_death hB34.1 (by omega) (p) ((0 + z42) + z43) ⟨by omega, by omega⟩ ⟨by omega, by omega⟩) (fun r G9 hp9 => ?_)
          obtain ⟨x44, A44, F44, hR44, rfl, rfl, e44, hE44⟩ := hp9
          obtain ⟨hB44, hy44, hw44, hL44⟩ := BI_K hB34 hR44 e44 hE44
          refine R_s (f' := (125, [some (vR 0), some (vR 1), some (vI n), some (vI p), some (vI v1), some (vI (-1)), some (vI 0)], [vI x44], LAY (shA A44) (shF F44), 87, 1141)) hc171 0 rfl trivial ?_
          refine R_s (P := True) (f' := (149, [some (vR 0), some (vR 1), some (vI n), some (vI p), some (vI v1), some (vI (-1)), some (vI 0)], [vI 512, vI v1], LAY (shA A44) (shF F44), 87, 1141)) hc171 4 rfl trivial ?_
          refine R_s (P := True) (f' := (150, [some (vR 0), some (vR 1), some (vI n), some (vI p), some (vI v1), some (vI (-1)), some (vI 0)], [vI (bnd v1 512)], LAY (shA A44) (shF F44), 87, 1141)) hc171 1 rfl trivial ?_
          obtain ⟨z45, hz45, hz45a, hz45b⟩ := bnd_ex (v1) (512) ⟨by decide, by decide⟩
          rw [hz45]
          refine R_if (t := 160) hc171 rfl rfl (fun (c19 : z45 = 0) => ?_) (fun (c19 : ¬ (z45 = 0)) => ?_)
          · refine R_s (P := inI (p + 1) ∧ True) (f' := (24, [some (vR 0), some (vR 1), some (vI n), some (vI (p + 1)), some (vI v1), some (vI (-1)), some (vI 0)], [], LAY (shA A44) (shF F44), 87, 1141)) hc171 2 rfl ⟨⟨by omega, by omega⟩, trivial⟩ ?_
            exact ih (p + 1) _ A44 F44 _ _ _ (by push_cast at hm; omega) (by omega) (by omega) (by omega) (by omega) hB44 (by omega) (by omega)
          · refine R_s (P := True) (f' := (156, [some (vR 0), some (vR 1), some (vI n), some (vI p), some (vI v1), some (vI (-1)), some (vI 0)], [vI 1, vI p, vR 1], LAY (shA A44) (shF F44), 87, 1141)) hc171 3 rfl trivial ?_
            refine R_cv hc171 rfl rfl (op_taken hB44.1 (by omega) (p) (1) ⟨by omega, by omega⟩ ⟨by decide, by decide⟩) (fun r G9 hp9 => ?_)
            obtain ⟨x46, A46, F46, hR46, rfl, rfl, e46, hE46⟩ := hp9
            obtain ⟨hB46, hy46, hw46, hL46⟩ := BI_K hB44 hR46 e46 hE46
            refine R_s (f' := (159, [some (vR 0), some (vR 1), some (vI n), some (vI p), some (vI v1), some (vI (-1)), some (vI 0)], [vI x46], LAY (shA A46) (shF F46), 87, 1141)) hc171 0 rfl trivial ?_
            refine R_s (P := inI (p + 1) ∧ True) (f' := (24, [some (vR 0), some (vR 1), some (vI n), some (vI (p + 1)), some (vI v1), some (vI (-1)), some (vI 0)], [], LAY (shA A46) (shF F46), 87, 1141)) hc171 3 rfl ⟨⟨by omega, by omega⟩, trivial⟩ ?_
            exact ih (p + 1) _ A46 F46 _ _ _ (by push_cast at hm; omega) (by omega) (by omega) (by omega) (by omega) hB46 (by omega) (by omega)

theorem b_t {sc : List Int} {post : Option AV → AG → Prop} {n : Int} (hlen : sc.length ≤ 260) (hsc : ∀ z ∈ sc, inI z) (hk : ∀ (c : Int) (A : Nat → List Int) (F : Nat → Int) (a4 a5 a6 : Option AV), 0 ≤ c → c ≤ 100 → BI sc c A F → F 0 = 0 → 1 ≤ F 3 → R 171 (226, [some (vR 0), some (vR 1), some (vI n), some (vI 0), a4, a5, a6], [], LAY (shA A) (shF F), 87, 1141) post) (p c : Int) (A : Nat → List Int) (F : Nat → Int) (a4 a5 a6 : Option AV) (h0c : 0 ≤ c) (hc : c ≤ 60) (hB : BI sc c A F) (hF0 : F 0 = 0) (hF3 : 1 ≤ F 3) : R 171 (166, [some (vR 0), some (vR 1), some (vI n), some (vI p), a4, a5, a6], [], LAY (shA A) (shF F), 87, 1141) post := by
  refine R_s (P := True) (f' := (170, [some (vR 0), some (vR 1), some (vI n), some (vI 0), a4, a5, a6], [vI 3, vI 0], LAY (shA A) (shF F), 87, 1141)) hc171 4 rfl trivial ?_
  refine R_ic (t := 224) hc171 rfl rfl (fun (z : 3 ≤ 0) => absurd z (by decide)) (fun (_ : ¬ (3 ≤ 0)) => ?_)
  refine R_s (P := inI 9 ∧ True) (f' := (178, [some (vR 0), some (vR 1), some (vI n), some (vI 0), a4, a5, a6], [vI 9, vR 0], LAY (shA A) (shF F), 87, 1141)) hc171 4 rfl ⟨⟨by omega, by omega⟩, trivial⟩ ?_
  refine R_cs hc171 rfl rfl (at_ok (by rw [hB.2.1]; omega) (by rw [hB.2.1]; exact hsc) (9) (by omega)) (fun r G9 hp9 => ?_)
  obtain ⟨v47, hv47, rfl, rfl⟩ := hp9
  unfold inI at hv47
  refine R_s (f' := (181, [some (vR 0), some (vR 1), some (vI n), some (vI 0), a4, a5, a6], [vI v47], LAY (shA A) (shF F), 87, 1141)) hc171 0 rfl trivial ?_
  refine R_s (P := True) (f' := (190, [some (vR 0), some (vR 1), some (vI n), some (vI 0), some (vI v47), a5, a6], [vI 255, vI v47, vI 1, vR 1], LAY (shA A) (shF F), 87, 1141)) hc171 5 rfl trivial ?_
  refine R_s (P := True) (f' := (191, [some (vR 0), some (vR 1), some (vI n), some (vI 0), some (vI v47), a5, a6], [vI (bnd v47 255), vI 1, vR 1], LAY (shA A) (shF F), 87, 1141)) hc171 1 rfl trivial ?_
  obtain ⟨z48, hz48, hz48a, hz48b⟩ := bnd_ex (v47) (255) ⟨by decide, by decide⟩
  rw [hz48]
  refine R_s (P := inI (1 + z48) ∧ (0 ≤ 8 ∧ 8 < 32) ∧ True) (f' := (200, [some (vR 0), some (vR 1), some (vI n), some (vI 0), some (vI v47), a5, a6], [vI 1023, vI (v47 / 2 ^ (8 : Int).toNat), vI (1 + z48), vR 1], LAY (shA A) (shF F), 87, 1141)) hc171 5 rfl ⟨⟨by omega, by omega⟩, ⟨by omega, by omega⟩, trivial⟩ ?_
  refine R_s (P := True) (f' := (201, [some (vR 0), some (vR 1), some (vI n), some (vI 0), some (vI v47), a5, a6], [vI (bnd (v47 / 2 ^ (8 : Int).toNat) 1023), vI (1 + z48), vR 1], LAY (shA A) (shF F), 87, 1141)) hc171 1 rfl trivial ?_
  obtain ⟨z49, hz49, hz49a, hz49b⟩ := bnd_ex (v47 / 2 ^ (8 : Int).toNat) (1023) ⟨by decide, by decide⟩
  rw [hz49]
  refine R_cv hc171 rfl rfl (op_thing hB.1 (by omega) (1 + z48) (z49) ⟨by omega, by omega⟩ ⟨by omega, by omega⟩) (fun r G9 hp9 => ?_)
  obtain ⟨x50, A50, F50, hR50, rfl, rfl, e50, hE50⟩ := hp9
  obtain ⟨hB50, hy50, hw50, hL50⟩ := BI_K hB hR50 e50 hE50
  refine R_s (f' := (204, [some (vR 0), some (vR 1), some (vI n), some (vI 0), some (vI v47), a5, a6], [vI x50], LAY (shA A50) (shF F50), 87, 1141)) hc171 0 rfl trivial ?_
  refine R_s (P := (0 ≤ 18 ∧ 18 < 32) ∧ True) (f' := (213, [some (vR 0), some (vR 1), some (vI n), some (vI 0), some (vI v47), a5, a6], [vI 1, vI (v47 / 2 ^ (18 : Int).toNat), vI 0, vR 1], LAY (shA A50) (shF F50), 87, 1141)) hc171 7 rfl ⟨⟨by omega, by omega⟩, trivial⟩ ?_
  refine R_s (P := True) (f' := (214, [some (vR 0), some (vR 1), some (vI n), some (vI 0), some (vI v47), a5, a6], [vI (bnd (v47 / 2 ^ (18 : Int).toNat) 1), vI 0, vR 1], LAY (shA A50) (shF F50), 87, 1141)) hc171 1 rfl trivial ?_
  obtain ⟨z51, hz51, hz51a, hz51b⟩ := bnd_ex (v47 / 2 ^ (18 : Int).toNat) (1) ⟨by decide, by decide⟩
  rw [hz51]
  refine R_cv hc171 rfl rfl (op_ruin hB50.1 (by omega) (0) (z51) ⟨by decide, by decide⟩ ⟨by omega, by omega⟩) (fun r G9 hp9 => ?_)
  obtain ⟨x52, A52, F52, hR52, rfl, rfl, e52, hE52⟩ := hp9
  obtain ⟨hB52, hy52, hw52, hL52⟩ := BI_K hB50 hR52 e52 hE52
  refine R_s (f' := (217, [some (vR 0), some (vR 1), some (vI n), some (vI 0), some (vI v47), a5, a6], [vI x52], LAY (shA A52) (shF F52), 87, 1141)) hc171 0 rfl trivial ?_
  refine R_s (P := inI 1 ∧ True) (f' := (170, [some (vR 0), some (vR 1), some (vI n), some (vI 1), some (vI v47), a5, a6], [vI 3, vI 1], LAY (shA A52) (shF F52), 87, 1141)) hc171 5 rfl ⟨⟨by omega, by omega⟩, trivial⟩ ?_
  refine R_ic (t := 224) hc171 rfl rfl (fun (z : 3 ≤ 1) => absurd z (by decide)) (fun (_ : ¬ (3 ≤ 1)) => ?_)
  refine R_s (P := inI 10 ∧ True) (f' := (178, [some (vR 0), some (vR 1), some (vI n), some (vI 1), some (vI v47), a5, a6], [vI 10, vR 0], LAY (shA A52) (shF F52), 87, 1141)) hc171 4 rfl ⟨⟨by omega, by omega⟩, trivial⟩ ?_
  refine R_cs hc171 rfl rfl (at_ok (by rw [hB52.2.1]; omega) (by rw [hB52.2.1]; exact hsc) (10) (by omega)) (fun r G9 hp9 => ?_)
  obtain ⟨v53, hv53, rfl, rfl⟩ := hp9
  unfold inI at hv53
  refine R_s (f' := (181, [some (vR 0), some (vR 1), some (vI n), some (vI 1), some (vI v47), a5, a6], [vI v53], LAY (shA A52) (shF F52), 87, 1141)) hc171 0 rfl trivial ?_
  refine R_s (P := True) (f' := (190, [some (vR 0), some (vR 1), some (vI n), some (vI 1), some (vI v53), a5, a6], [vI 255, vI v53, vI 1, vR 1], LAY (shA A52) (shF F52), 87, 1141)) hc171 5 rfl trivial ?_
  refine R_s (P := True) (f' := (191, [some (vR 0), some (vR 1), some (vI n), some (vI 1), some (vI v53), a5, a6], [vI (bnd v53 255), vI 1, vR 1], LAY (shA A52) (shF F52), 87, 1141)) hc171 1 rfl trivial ?_
  obtain ⟨z54, hz54, hz54a, hz54b⟩ := bnd_ex (v53) (255) ⟨by decide, by decide⟩
  rw [hz54]
  refine R_s (P := inI (1 + z54) ∧ (0 ≤ 8 ∧ 8 < 32) ∧ True) (f' := (200, [some (vR 0), some (vR 1), some (vI n), some (vI 1), some (vI v53), a5, a6], [vI 1023, vI (v53 / 2 ^ (8 : Int).toNat), vI (1 + z54), vR 1], LAY (shA A52) (shF F52), 87, 1141)) hc171 5 rfl ⟨⟨by omega, by omega⟩, ⟨by omega, by omega⟩, trivial⟩ ?_
  refine R_s (P := True) (f' := (201, [some (vR 0), some (vR 1), some (vI n), some (vI 1), some (vI v53), a5, a6], [vI (bnd (v53 / 2 ^ (8 : Int).toNat) 1023), vI (1 + z54), vR 1], LAY (shA A52) (shF F52), 87, 1141)) hc171 1 rfl trivial ?_
  obtain ⟨z55, hz55, hz55a, hz55b⟩ := bnd_ex (v53 / 2 ^ (8 : Int).toNat) (1023) ⟨by decide, by decide⟩
  rw [hz55]
  refine R_cv hc171 rfl rfl (op_thing hB52.1 (by omega) (1 + z54) (z55) ⟨by omega, by omega⟩ ⟨by omega, by omega⟩) (fun r G9 hp9 => ?_)
  obtain ⟨x56, A56, F56, hR56, rfl, rfl, e56, hE56⟩ := hp9
  obtain ⟨hB56, hy56, hw56, hL56⟩ := BI_K hB52 hR56 e56 hE56
  refine R_s (f' := (204, [some (vR 0), some (vR 1), some (vI n), some (vI 1), some (vI v53), a5, a6], [vI x56], LAY (shA A56) (shF F56), 87, 1141)) hc171 0 rfl trivial ?_
  refine R_s (P := (0 ≤ 18 ∧ 18 < 32) ∧ True) (f' := (213, [some (vR 0), some (vR 1), some (vI n), some (vI 1), some (vI v53), a5, a6], [vI 1, vI (v53 / 2 ^ (18 : Int).toNat), vI 1, vR 1], LAY (shA A56) (shF F56), 87, 1141)) hc171 7 rfl ⟨⟨by omega, by omega⟩, trivial⟩ ?_
  refine R_s (P := True) (f' := (214, [some (vR 0), some (vR 1), some (vI n), some (vI 1), some (vI v53), a5, a6], [vI (bnd (v53 / 2 ^ (18 : Int).toNat) 1), vI 1, vR 1], LAY (shA A56) (shF F56), 87, 1141)) hc171 1 rfl trivial ?_
  obtain ⟨z57, hz57, hz57a, hz57b⟩ := bnd_ex (v53 / 2 ^ (18 : Int).toNat) (1) ⟨by decide, by decide⟩
  rw [hz57]
  refine R_cv hc171 rfl rfl (op_ruin hB56.1 (by omega) (1) (z57) ⟨by decide, by decide⟩ ⟨by omega, by omega⟩) (fun r G9 hp9 => ?_)
  obtain ⟨x58, A58, F58, hR58, rfl, rfl, e58, hE58⟩ := hp9
  obtain ⟨hB58, hy58, hw58, hL58⟩ := BI_K hB56 hR58 e58 hE58
  refine R_s (f' := (217, [some (vR 0), some (vR 1), some (vI n), some (vI 1), some (vI v53), a5, a6], [vI x58], LAY (shA A58) (shF F58), 87, 1141)) hc171 0 rfl trivial ?_
  refine R_s (P := inI 2 ∧ True) (f' := (170, [some (vR 0), some (vR 1), some (vI n), some (vI 2), some (vI v53), a5, a6], [vI 3, vI 2], LAY (shA A58) (shF F58), 87, 1141)) hc171 5 rfl ⟨⟨by omega, by omega⟩, trivial⟩ ?_
  refine R_ic (t := 224) hc171 rfl rfl (fun (z : 3 ≤ 2) => absurd z (by decide)) (fun (_ : ¬ (3 ≤ 2)) => ?_)
  refine R_s (P := inI 11 ∧ True) (f' := (178, [some (vR 0), some (vR 1), some (vI n), some (vI 2), some (vI v53), a5, a6], [vI 11, vR 0], LAY (shA A58) (shF F58), 87, 1141)) hc171 4 rfl ⟨⟨by omega, by omega⟩, trivial⟩ ?_
  refine R_cs hc171 rfl rfl (at_ok (by rw [hB58.2.1]; omega) (by rw [hB58.2.1]; exact hsc) (11) (by omega)) (fun r G9 hp9 => ?_)
  obtain ⟨v59, hv59, rfl, rfl⟩ := hp9
  unfold inI at hv59
  refine R_s (f' := (181, [some (vR 0), some (vR 1), some (vI n), some (vI 2), some (vI v53), a5, a6], [vI v59], LAY (shA A58) (shF F58), 87, 1141)) hc171 0 rfl trivial ?_
  refine R_s (P := True) (f' := (190, [some (vR 0), some (vR 1), some (vI n), some (vI 2), some (vI v59), a5, a6], [vI 255, vI v59, vI 1, vR 1], LAY (shA A58) (shF F58), 87, 1141)) hc171 5 rfl trivial ?_
  refine R_s (P := True) (f' := (191, [some (vR 0), some (vR 1), some (vI n), some (vI 2), some (vI v59), a5, a6], [vI (bnd v59 255), vI 1, vR 1], LAY (shA A58) (shF F58), 87, 1141)) hc171 1 rfl trivial ?_
  obtain ⟨z60, hz60, hz60a, hz60b⟩ := bnd_ex (v59) (255) ⟨by decide, by decide⟩
  rw [hz60]
  refine R_s (P := inI (1 + z60) ∧ (0 ≤ 8 ∧ 8 < 32) ∧ True) (f' := (200, [some (vR 0), some (vR 1), some (vI n), some (vI 2), some (vI v59), a5, a6], [vI 1023, vI (v59 / 2 ^ (8 : Int).toNat), vI (1 + z60), vR 1], LAY (shA A58) (shF F58), 87, 1141)) hc171 5 rfl ⟨⟨by omega, by omega⟩, ⟨by omega, by omega⟩, trivial⟩ ?_
  refine R_s (P := True) (f' := (201, [some (vR 0), some (vR 1), some (vI n), some (vI 2), some (vI v59), a5, a6], [vI (bnd (v59 / 2 ^ (8 : Int).toNat) 1023), vI (1 + z60), vR 1], LAY (shA A58) (shF F58), 87, 1141)) hc171 1 rfl trivial ?_
  obtain ⟨z61, hz61, hz61a, hz61b⟩ := bnd_ex (v59 / 2 ^ (8 : Int).toNat) (1023) ⟨by decide, by decide⟩
  rw [hz61]
  refine R_cv hc171 rfl rfl (op_thing hB58.1 (by omega) (1 + z60) (z61) ⟨by omega, by omega⟩ ⟨by omega, by omega⟩) (fun r G9 hp9 => ?_)
  obtain ⟨x62, A62, F62, hR62, rfl, rfl, e62, hE62⟩ := hp9
  obtain ⟨hB62, hy62, hw62, hL62⟩ := BI_K hB58 hR62 e62 hE62
  refine R_s (f' := (204, [some (vR 0), some (vR 1), some (vI n), some (vI 2), some (vI v59), a5, a6], [vI x62], LAY (shA A62) (shF F62), 87, 1141)) hc171 0 rfl trivial ?_
  refine R_s (P := (0 ≤ 18 ∧ 18 < 32) ∧ True) (f' := (213, [some (vR 0), some (vR 1), some (vI n), some (vI 2), some (vI v59), a5, a6], [vI 1, vI (v59 / 2 ^ (18 : Int).toNat), vI 2, vR 1], LAY (shA A62) (shF F62), 87, 1141)) hc171 7 rfl ⟨⟨by omega, by omega⟩, trivial⟩ ?_
  refine R_s (P := True) (f' := (214, [some (vR 0), some (vR 1), some (vI n), some (vI 2), some (vI v59), a5, a6], [vI (bnd (v59 / 2 ^ (18 : Int).toNat) 1), vI 2, vR 1], LAY (shA A62) (shF F62), 87, 1141)) hc171 1 rfl trivial ?_
  obtain ⟨z63, hz63, hz63a, hz63b⟩ := bnd_ex (v59 / 2 ^ (18 : Int).toNat) (1) ⟨by decide, by decide⟩
  rw [hz63]
  refine R_cv hc171 rfl rfl (op_ruin hB62.1 (by omega) (2) (z63) ⟨by decide, by decide⟩ ⟨by omega, by omega⟩) (fun r G9 hp9 => ?_)
  obtain ⟨x64, A64, F64, hR64, rfl, rfl, e64, hE64⟩ := hp9
  obtain ⟨hB64, hy64, hw64, hL64⟩ := BI_K hB62 hR64 e64 hE64
  refine R_s (f' := (217, [some (vR 0), some (vR 1), some (vI n), some (vI 2), some (vI v59), a5, a6], [vI x64], LAY (shA A64) (shF F64), 87, 1141)) hc171 0 rfl trivial ?_
  refine R_s (P := inI 3 ∧ True) (f' := (170, [some (vR 0), some (vR 1), some (vI n), some (vI 3), some (vI v59), a5, a6], [vI 3, vI 3], LAY (shA A64) (shF F64), 87, 1141)) hc171 5 rfl ⟨⟨by omega, by omega⟩, trivial⟩ ?_
  refine R_ic (t := 224) hc171 rfl rfl (fun (_ : 3 ≤ 3) => ?_) (fun (z : ¬ (3 ≤ 3)) => absurd (by decide) z)
  refine R_s (P := True) (f' := (226, [some (vR 0), some (vR 1), some (vI n), some (vI 0), some (vI v59), a5, a6], [], LAY (shA A64) (shF F64), 87, 1141)) hc171 2 rfl trivial ?_
  exact hk _ A64 F64 _ _ _ (by omega) (by omega) hB64 (by omega) (by omega)

theorem b_parts_0 {sc : List Int} {post : Option AV → AG → Prop} {n : Int} (hlen : sc.length ≤ 260) (hsc : ∀ z ∈ sc, inI z) (hk : ∀ (c : Int) (A : Nat → List Int) (F : Nat → Int) (a4 a5 a6 : Option AV), 0 ≤ c → c ≤ 270 → BI sc c A F → F 0 = 1 → 1 ≤ F 3 → S0 A F → R 171 (226, [some (vR 0), some (vR 1), some (vI n), some (vI 1), a4, a5, a6], [], LAY (shA A) (shF F), 287, 21141) post) (c : Int) (A : Nat → List Int) (F : Nat → Int) (a4 a5 a6 : Option AV) (h0c : 0 ≤ c) (hc : c ≤ 260) (hB : BI sc c A F) (hF0 : F 0 = 1) (hF3 : 1 ≤ F 3) (hS0 : S0 A F) : R 171 (270, [some (vR 0), some (vR 1), some (vI n), some (vI 0), a4, a5, a6], [], LAY (shA A) (shF F), 287, 21141) post := by
  refine R_s (P := True) (f' := (276, [some (vR 0), some (vR 1), some (vI n), some (vI 0), some (vI 0), a5, a6], [vI 3, vI 0], LAY (shA A) (shF F), 287, 21141)) hc171 4 rfl trivial ?_
  refine R_ic (t := 314) hc171 rfl rfl (fun (z : 3 ≤ 0) => absurd z (by decide)) (fun (_ : ¬ (3 ≤ 0)) => ?_)
  refine R_s (P := inI 14 ∧ True) (f' := (289, [some (vR 0), some (vR 1), some (vI n), some (vI 0), some (vI 0), a5, a6], [vI 14, vR 0, vI 1, vI 0, vI 0, vR 1], LAY (shA A) (shF F), 287, 21141)) hc171 8 rfl ⟨⟨by omega, by omega⟩, trivial⟩ ?_
  refine R_cs hc171 rfl rfl (at_ok (by rw [hB.2.1]; omega) (by rw [hB.2.1]; exact hsc) (14) (by omega)) (fun r G9 hp9 => ?_)
  obtain ⟨v65, hv65, rfl, rfl⟩ := hp9
  unfold inI at hv65
  refine R_s (f' := (292, [some (vR 0), some (vR 1), some (vI n), some (vI 0), some (vI 0), a5, a6], [vI v65, vI 1, vI 0, vI 0, vR 1], LAY (shA A) (shF F), 287, 21141)) hc171 0 rfl trivial ?_
  refine R_s (P := inI 0 ∧ (0 ≤ 0 ∧ 0 < 32) ∧ True) (f' := (299, [some (vR 0), some (vR 1), some (vI n), some (vI 0), some (vI 0), a5, a6], [vI 15, vI (v65 / 2 ^ (0 : Int).toNat), vI 1, vI 0, vI 0, vR 1], LAY (shA A) (shF F), 287, 21141)) hc171 5 rfl ⟨⟨by omega, by omega⟩, ⟨by omega, by omega⟩, trivial⟩ ?_
  refine R_s (P := True) (f' := (300, [some (vR 0), some (vR 1), some (vI n), some (vI 0), some (vI 0), a5, a6], [vI (bnd (v65 / 2 ^ (0 : Int).toNat) 15), vI 1, vI 0, vI 0, vR 1], LAY (shA A) (shF F), 287, 21141)) hc171 1 rfl trivial ?_
  obtain ⟨z66, hz66, hz66a, hz66b⟩ := bnd_ex (v65 / 2 ^ (0 : Int).toNat) (15) ⟨by decide, by decide⟩
  rw [hz66]
  refine R_s (P := True) (f' := (302, [some (vR 0), some (vR 1), some (vI n), some (vI 0), some (vI 0), a5, a6], [vI 7, vI z66, vI 1, vI 0, vI 0, vR 1], LAY (shA A) (shF F), 287, 21141)) hc171 1 rfl trivial ?_
  refine R_s (P := (0 ≤ z66 ∧ 0 < 7) ∧ True) (f' := (303, [some (vR 0), some (vR 1), some (vI n), some (vI 0), some (vI 0), a5, a6], [vI (z66 % 7), vI 1, vI 0, vI 0, vR 1], LAY (shA A) (shF F), 287, 21141)) hc171 1 rfl ⟨⟨by omega, by omega⟩, trivial⟩ ?_
  obtain ⟨z67, hz67, hz67a, hz67b⟩ := mod_ex (z66) (7) (by omega)
  rw [hz67]
  refine R_s (P := inI (1 + z67) ∧ True) (f' := (304, [some (vR 0), some (vR 1), some (vI n), some (vI 0), some (vI 0), a5, a6], [vI (1 + z67), vI 0, vI 0, vR 1], LAY (shA A) (shF F), 287, 21141)) hc171 1 rfl ⟨⟨by omega, by omega⟩, trivial⟩ ?_
  refine R_cv hc171 rfl rfl (op_part hB.1 (by omega) (0) (0) (1 + z67) ⟨by decide, by decide⟩ ⟨by decide, by decide⟩ ⟨by omega, by omega⟩) (fun r G9 hp9 => ?_)
  obtain ⟨x68, A68, F68, hR68, rfl, rfl, e68, hE68⟩ := hp9
  obtain ⟨hB68, hy68, hw68, hL68⟩ := BI_K hB hR68 e68 hE68
  refine R_s (f' := (307, [some (vR 0), some (vR 1), some (vI n), some (vI 0), some (vI 0), a5, a6], [vI x68], LAY (shA A68) (shF F68), 287, 21141)) hc171 0 rfl trivial ?_
  refine R_s (P := inI 1 ∧ True) (f' := (276, [some (vR 0), some (vR 1), some (vI n), some (vI 0), some (vI 1), a5, a6], [vI 3, vI 1], LAY (shA A68) (shF F68), 287, 21141)) hc171 5 rfl ⟨⟨by omega, by omega⟩, trivial⟩ ?_
  refine R_ic (t := 314) hc171 rfl rfl (fun (z : 3 ≤ 1) => absurd z (by decide)) (fun (_ : ¬ (3 ≤ 1)) => ?_)
  refine R_s (P := inI 14 ∧ True) (f' := (289, [some (vR 0), some (vR 1), some (vI n), some (vI 0), some (vI 1), a5, a6], [vI 14, vR 0, vI 1, vI 0, vI 1, vR 1], LAY (shA A68) (shF F68), 287, 21141)) hc171 8 rfl ⟨⟨by omega, by omega⟩, trivial⟩ ?_
  refine R_cs hc171 rfl rfl (at_ok (by rw [hB68.2.1]; omega) (by rw [hB68.2.1]; exact hsc) (14) (by omega)) (fun r G9 hp9 => ?_)
  obtain ⟨v69, hv69, rfl, rfl⟩ := hp9
  unfold inI at hv69
  refine R_s (f' := (292, [some (vR 0), some (vR 1), some (vI n), some (vI 0), some (vI 1), a5, a6], [vI v69, vI 1, vI 0, vI 1, vR 1], LAY (shA A68) (shF F68), 287, 21141)) hc171 0 rfl trivial ?_
  refine R_s (P := inI 4 ∧ (0 ≤ 4 ∧ 4 < 32) ∧ True) (f' := (299, [some (vR 0), some (vR 1), some (vI n), some (vI 0), some (vI 1), a5, a6], [vI 15, vI (v69 / 2 ^ (4 : Int).toNat), vI 1, vI 0, vI 1, vR 1], LAY (shA A68) (shF F68), 287, 21141)) hc171 5 rfl ⟨⟨by omega, by omega⟩, ⟨by omega, by omega⟩, trivial⟩ ?_
  refine R_s (P := True) (f' := (300, [some (vR 0), some (vR 1), some (vI n), some (vI 0), some (vI 1), a5, a6], [vI (bnd (v69 / 2 ^ (4 : Int).toNat) 15), vI 1, vI 0, vI 1, vR 1], LAY (shA A68) (shF F68), 287, 21141)) hc171 1 rfl trivial ?_
  obtain ⟨z70, hz70, hz70a, hz70b⟩ := bnd_ex (v69 / 2 ^ (4 : Int).toNat) (15) ⟨by decide, by decide⟩
  rw [hz70]
  refine R_s (P := True) (f' := (302, [some (vR 0), some (vR 1), some (vI n), some (vI 0), some (vI 1), a5, a6], [vI 7, vI z70, vI 1, vI 0, vI 1, vR 1], LAY (shA A68) (shF F68), 287, 21141)) hc171 1 rfl trivial ?_
  refine R_s (P := (0 ≤ z70 ∧ 0 < 7) ∧ True) (f' := (303, [some (vR 0), some (vR 1), some (vI n), some (vI 0), some (vI 1), a5, a6], [vI (z70 % 7), vI 1, vI 0, vI 1, vR 1], LAY (shA A68) (shF F68), 287, 21141)) hc171 1 rfl ⟨⟨by omega, by omega⟩, trivial⟩ ?_
  obtain ⟨z71, hz71, hz71a, hz71b⟩ := mod_ex (z70) (7) (by omega)
  rw [hz71]
  refine R_s (P := inI (1 + z71) ∧ True) (f' := (304, [some (vR 0), some (vR 1), some (vI n), some (vI 0), some (vI 1), a5, a6], [vI (1 + z71), vI 0, vI 1, vR 1], LAY (shA A68) (shF F68), 287, 21141)) hc171 1 rfl ⟨⟨by omega, by omega⟩, trivial⟩ ?_
  refine R_cv hc171 rfl rfl (op_part hB68.1 (by omega) (1) (0) (1 + z71) ⟨by decide, by decide⟩ ⟨by decide, by decide⟩ ⟨by omega, by omega⟩) (fun r G9 hp9 => ?_)
  obtain ⟨x72, A72, F72, hR72, rfl, rfl, e72, hE72⟩ := hp9
  obtain ⟨hB72, hy72, hw72, hL72⟩ := BI_K hB68 hR72 e72 hE72
  refine R_s (f' := (307, [some (vR 0), some (vR 1), some (vI n), some (vI 0), some (vI 1), a5, a6], [vI x72], LAY (shA A72) (shF F72), 287, 21141)) hc171 0 rfl trivial ?_
  refine R_s (P := inI 2 ∧ True) (f' := (276, [some (vR 0), some (vR 1), some (vI n), some (vI 0), some (vI 2), a5, a6], [vI 3, vI 2], LAY (shA A72) (shF F72), 287, 21141)) hc171 5 rfl ⟨⟨by omega, by omega⟩, trivial⟩ ?_
  refine R_ic (t := 314) hc171 rfl rfl (fun (z : 3 ≤ 2) => absurd z (by decide)) (fun (_ : ¬ (3 ≤ 2)) => ?_)
  refine R_s (P := inI 14 ∧ True) (f' := (289, [some (vR 0), some (vR 1), some (vI n), some (vI 0), some (vI 2), a5, a6], [vI 14, vR 0, vI 1, vI 0, vI 2, vR 1], LAY (shA A72) (shF F72), 287, 21141)) hc171 8 rfl ⟨⟨by omega, by omega⟩, trivial⟩ ?_
  refine R_cs hc171 rfl rfl (at_ok (by rw [hB72.2.1]; omega) (by rw [hB72.2.1]; exact hsc) (14) (by omega)) (fun r G9 hp9 => ?_)
  obtain ⟨v73, hv73, rfl, rfl⟩ := hp9
  unfold inI at hv73
  refine R_s (f' := (292, [some (vR 0), some (vR 1), some (vI n), some (vI 0), some (vI 2), a5, a6], [vI v73, vI 1, vI 0, vI 2, vR 1], LAY (shA A72) (shF F72), 287, 21141)) hc171 0 rfl trivial ?_
  refine R_s (P := inI 8 ∧ (0 ≤ 8 ∧ 8 < 32) ∧ True) (f' := (299, [some (vR 0), some (vR 1), some (vI n), some (vI 0), some (vI 2), a5, a6], [vI 15, vI (v73 / 2 ^ (8 : Int).toNat), vI 1, vI 0, vI 2, vR 1], LAY (shA A72) (shF F72), 287, 21141)) hc171 5 rfl ⟨⟨by omega, by omega⟩, ⟨by omega, by omega⟩, trivial⟩ ?_
  refine R_s (P := True) (f' := (300, [some (vR 0), some (vR 1), some (vI n), some (vI 0), some (vI 2), a5, a6], [vI (bnd (v73 / 2 ^ (8 : Int).toNat) 15), vI 1, vI 0, vI 2, vR 1], LAY (shA A72) (shF F72), 287, 21141)) hc171 1 rfl trivial ?_
  obtain ⟨z74, hz74, hz74a, hz74b⟩ := bnd_ex (v73 / 2 ^ (8 : Int).toNat) (15) ⟨by decide, by decide⟩
  rw [hz74]
  refine R_s (P := True) (f' := (302, [some (vR 0), some (vR 1), some (vI n), some (vI 0), some (vI 2), a5, a6], [vI 7, vI z74, vI 1, vI 0, vI 2, vR 1], LAY (shA A72) (shF F72), 287, 21141)) hc171 1 rfl trivial ?_
  refine R_s (P := (0 ≤ z74 ∧ 0 < 7) ∧ True) (f' := (303, [some (vR 0), some (vR 1), some (vI n), some (vI 0), some (vI 2), a5, a6], [vI (z74 % 7), vI 1, vI 0, vI 2, vR 1], LAY (shA A72) (shF F72), 287, 21141)) hc171 1 rfl ⟨⟨by omega, by omega⟩, trivial⟩ ?_
  obtain ⟨z75, hz75, hz75a, hz75b⟩ := mod_ex (z74) (7) (by omega)
  rw [hz75]
  refine R_s (P := inI (1 + z75) ∧ True) (f' := (304, [some (vR 0), some (vR 1), some (vI n), some (vI 0), some (vI 2), a5, a6], [vI (1 + z75), vI 0, vI 2, vR 1], LAY (shA A72) (shF F72), 287, 21141)) hc171 1 rfl ⟨⟨by omega, by omega⟩, trivial⟩ ?_
  refine R_cv hc171 rfl rfl (op_part hB72.1 (by omega) (2) (0) (1 + z75) ⟨by decide, by decide⟩ ⟨by decide, by decide⟩ ⟨by omega, by omega⟩) (fun r G9 hp9 => ?_)
  obtain ⟨x76, A76, F76, hR76, rfl, rfl, e76, hE76⟩ := hp9
  obtain ⟨hB76, hy76, hw76, hL76⟩ := BI_K hB72 hR76 e76 hE76
  refine R_s (f' := (307, [some (vR 0), some (vR 1), some (vI n), some (vI 0), some (vI 2), a5, a6], [vI x76], LAY (shA A76) (shF F76), 287, 21141)) hc171 0 rfl trivial ?_
  refine R_s (P := inI 3 ∧ True) (f' := (276, [some (vR 0), some (vR 1), some (vI n), some (vI 0), some (vI 3), a5, a6], [vI 3, vI 3], LAY (shA A76) (shF F76), 287, 21141)) hc171 5 rfl ⟨⟨by omega, by omega⟩, trivial⟩ ?_
  refine R_ic (t := 314) hc171 rfl rfl (fun (_ : 3 ≤ 3) => ?_) (fun (z : ¬ (3 ≤ 3)) => absurd (by decide) z)
  refine R_s (P := inI 1 ∧ True) (f' := (226, [some (vR 0), some (vR 1), some (vI n), some (vI 1), some (vI 3), a5, a6], [], LAY (shA A76) (shF F76), 287, 21141)) hc171 2 rfl ⟨⟨by omega, by omega⟩, trivial⟩ ?_
  exact hk _ A76 F76 _ _ _ (by omega) (by omega) hB76 (by omega) (by omega) (S0_L (BL_tr (BL_tr hL68 hL72) hL76) hS0)

theorem b_deed_0 {sc : List Int} {post : Option AV → AG → Prop} {n : Int} (hn : 2 ≤ n ∧ n ≤ 7) (hlen : sc.length ≤ 260) (hsc : ∀ z ∈ sc, inI z) (hk : ∀ (c : Int) (A : Nat → List Int) (F : Nat → Int) (a4 a5 a6 : Option AV), 0 ≤ c → c ≤ 260 → BI sc c A F → F 0 = 1 → 1 ≤ F 3 → S0 A F → R 171 (270, [some (vR 0), some (vR 1), some (vI n), some (vI 0), a4, a5, a6], [], LAY (shA A) (shF F), 287, 21141) post) (c : Int) (A : Nat → List Int) (F : Nat → Int) (a4 a5 a6 : Option AV) (h0c : 0 ≤ c) (hc : c ≤ 100) (hB : BI sc c A F) (hF0 : F 0 = 0) (hF3 : 1 ≤ F 3) : R 171 (226, [some (vR 0), some (vR 1), some (vI n), some (vI 0), a4, a5, a6], [], LAY (shA A) (shF F), 87, 1141) post := by
  refine R_s (P := True) (f' := (228, [some (vR 0), some (vR 1), some (vI n), some (vI 0), a4, a5, a6], [vI 2, vI 0], LAY (shA A) (shF F), 87, 1141)) hc171 2 rfl trivial ?_
  refine R_ic (t := 320) hc171 rfl rfl (fun (z : 2 ≤ 0) => absurd z (by decide)) (fun (_ : ¬ (2 ≤ 0)) => ?_)
  refine R_s (P := inI 12 ∧ True) (f' := (237, [some (vR 0), some (vR 1), some (vI n), some (vI 0), a4, a5, a6], [vI 12, vR 0, vR 1], LAY (shA A) (shF F), 87, 1141)) hc171 5 rfl ⟨⟨by omega, by omega⟩, trivial⟩ ?_
  refine R_cs hc171 rfl rfl (at_ok (by rw [hB.2.1]; omega) (by rw [hB.2.1]; exact hsc) (12) (by omega)) (fun r G9 hp9 => ?_)
  obtain ⟨v77, hv77, rfl, rfl⟩ := hp9
  unfold inI at hv77
  refine R_s (f' := (240, [some (vR 0), some (vR 1), some (vI n), some (vI 0), a4, a5, a6], [vI v77, vR 1], LAY (shA A) (shF F), 87, 1141)) hc171 0 rfl trivial ?_
  refine R_s (P := True) (f' := (241, [some (vR 0), some (vR 1), some (vI n), some (vI 0), a4, a5, a6], [vI n, vI v77, vR 1], LAY (shA A) (shF F), 87, 1141)) hc171 1 rfl trivial ?_
  refine R_wt (J := JW sc (c) A F) hn (Nat.le_of_ble_eq_true rfl) (Nat.le_of_ble_eq_true rfl) (JW_0 hB) (fun _ _ h => JW_ob h) (fun k ch G h1 h2 h3 h => JW_st (by omega) h1 h2 h3 h) (fun k78 G9 hk78 hJ => ?_)
  obtain ⟨A78, F78, hB78, rfl, hy78, hw78, hL78⟩ := hJ
  refine R_s (f' := (247, [some (vR 0), some (vR 1), some (vI n), some (vI 0), a4, a5, a6], [], LAY (shA A78) (shF F78), 287, 21141)) hc171 0 rfl trivial ?_
  refine R_s (P := True) (f' := (248, [some (vR 0), some (vR 1), some (vI n), some (vI 0), a4, a5, a6], [vR 1], LAY (shA A78) (shF F78), 287, 21141)) hc171 1 rfl trivial ?_
  refine R_cv hc171 rfl rfl (op_deed_0 hB78.1 (by omega) (by omega)) (fun r G9 hp9 => ?_)
  obtain ⟨x79, A79, F79, hR79, rfl, rfl, e79, p2, p84, p85, p3, hS79, hU79⟩ := hp9
  have hB79 : BI sc _ A79 F79 := ⟨hR79, e79.trans hB78.2.1, p2.trans hB78.2.2.1, p84.trans hB78.2.2.2.1, p85.trans hB78.2.2.2.2⟩
  have h379 := p3
  refine R_s (f' := (251, [some (vR 0), some (vR 1), some (vI n), some (vI 0), a4, a5, a6], [vI x79], LAY (shA A79) (shF F79), 287, 21141)) hc171 0 rfl trivial ?_
  refine R_if (t := 270) hc171 rfl rfl (fun (c2 : 0 ≤ x79) => ?_) (fun (c2 : ¬ (0 ≤ x79)) => ?_)
  · have hx0 : 0 ≤ x79 := by omega
    have hok : F79 0 = 1 ∧ S0 A79 F79 := by
      rcases hS79 with h | h
      · exact ⟨by omega, h.2.2⟩
      · exact absurd h.1 (by omega)
    exact hk _ A79 F79 _ _ _ (by omega) (by omega) hB79 hok.1 (by omega) hok.2
  · have hz79 : F79 0 = 0 := by
      rcases hS79 with h | h
      · exact absurd h.1 (by omega)
      · omega
    refine R_s (P := True) (f' := (255, [some (vR 0), some (vR 1), some (vI n), some (vI 0), a4, a5, a6], [vR 1], LAY (shA A79) (shF F79), 287, 21141)) hc171 1 rfl trivial ?_
    refine R_cv hc171 rfl rfl (op_wipe hB79.1 (by omega)  ) (fun r G9 hp9 => ?_)
    obtain ⟨x80, A80, F80, hR80, rfl, rfl, e80, hE80⟩ := hp9
    obtain ⟨hB80, hy80, hw80, hL80⟩ := BI_K hB79 hR80 e80 hE80.1
    have hX80 := hE80.2
    refine R_s (f' := (258, [some (vR 0), some (vR 1), some (vI n), some (vI 0), a4, a5, a6], [vI x80], LAY (shA A80) (shF F80), 287, 21141)) hc171 0 rfl trivial ?_
    refine R_s (P := True) (f' := (262, [some (vR 0), some (vR 1), some (vI n), some (vI 0), a4, a5, a6], [vS 28, vR 1], LAY (shA A80) (shF F80), 287, 21141)) hc171 3 rfl trivial ?_
    refine R_ct (J := JT sc (c + (k78 : Nat) + 1 + 1) A80 F80) (Nat.le_of_ble_eq_true rfl) (Nat.le_of_ble_eq_true rfl) (JT_0 hB80 hX80) (fun _ _ h => JT_ob h) (fun k h1 G h => JT_st (by omega) h1 h) (fun G9 hJ => ?_)
    obtain ⟨A81, F81, hB81, rfl, hy81, hw81, hL81, h581, h1881⟩ := hJ
    refine R_s (f' := (265, [some (vR 0), some (vR 1), some (vI n), some (vI 0), a4, a5, a6], [], LAY (shA A81) (shF F81), 287, 21141)) hc171 0 rfl trivial ?_
    refine R_s (P := True) (f' := (266, [some (vR 0), some (vR 1), some (vI n), some (vI 0), a4, a5, a6], [vR 1], LAY (shA A81) (shF F81), 287, 21141)) hc171 1 rfl trivial ?_
    refine R_cv hc171 rfl rfl (op_deed_0 hB81.1 (by omega) (by omega)) (fun r G9 hp9 => ?_)
    obtain ⟨x82, A82, F82, hR82, rfl, rfl, e82, p2, p84, p85, p3, hS82, hU82⟩ := hp9
    have hB82 : BI sc _ A82 F82 := ⟨hR82, e82.trans hB81.2.1, p2.trans hB81.2.2.1, p84.trans hB81.2.2.2.1, p85.trans hB81.2.2.2.2⟩
    have h382 := p3
    refine R_s (f' := (269, [some (vR 0), some (vR 1), some (vI n), some (vI 0), a4, a5, a6], [vI x82], LAY (shA A82) (shF F82), 287, 21141)) hc171 0 rfl trivial ?_
    refine R_s (P := True) (f' := (270, [some (vR 0), some (vR 1), some (vI n), some (vI 0), a4, a5, a6], [], LAY (shA A82) (shF F82), 287, 21141)) hc171 1 rfl trivial ?_
    have hfb := fb_ok (l := A81 18) (n := F81 5) (by omega) h1881 (m := F81 3) (by omega)
    have hx0 : 0 ≤ x82 := hU82 2 hfb.1 hfb.2
    have hok : F82 0 = 1 ∧ S0 A82 F82 := by
      rcases hS82 with h | h
      · exact ⟨by omega, h.2.2⟩
      · exact absurd h.1 (by omega)
    exact hk _ A82 F82 _ _ _ (by omega) (by omega) hB82 hok.1 (by omega) hok.2

theorem b_parts_1 {sc : List Int} {post : Option AV → AG → Prop} {n : Int} (hlen : sc.length ≤ 260) (hsc : ∀ z ∈ sc, inI z) (hk : ∀ (c : Int) (A : Nat → List Int) (F : Nat → Int) (a4 a5 a6 : Option AV), 0 ≤ c → c ≤ 430 → BI sc c A F → F 0 = 2 → 1 ≤ F 3 → S0 A F → S1 A F → R 171 (226, [some (vR 0), some (vR 1), some (vI n), some (vI 2), a4, a5, a6], [], LAY (shA A) (shF F), 487, 41141) post) (c : Int) (A : Nat → List Int) (F : Nat → Int) (a4 a5 a6 : Option AV) (h0c : 0 ≤ c) (hc : c ≤ 420) (hB : BI sc c A F) (hF0 : F 0 = 2) (hF3 : 1 ≤ F 3) (hS0 : S0 A F) (hS1 : S1 A F) : R 171 (270, [some (vR 0), some (vR 1), some (vI n), some (vI 1), a4, a5, a6], [], LAY (shA A) (shF F), 487, 41141) post := by
  refine R_s (P := True) (f' := (276, [some (vR 0), some (vR 1), some (vI n), some (vI 1), some (vI 0), a5, a6], [vI 3, vI 0], LAY (shA A) (shF F), 487, 41141)) hc171 4 rfl trivial ?_
  refine R_ic (t := 314) hc171 rfl rfl (fun (z : 3 ≤ 0) => absurd z (by decide)) (fun (_ : ¬ (3 ≤ 0)) => ?_)
  refine R_s (P := inI 15 ∧ True) (f' := (289, [some (vR 0), some (vR 1), some (vI n), some (vI 1), some (vI 0), a5, a6], [vI 15, vR 0, vI 1, vI 1, vI 0, vR 1], LAY (shA A) (shF F), 487, 41141)) hc171 8 rfl ⟨⟨by omega, by omega⟩, trivial⟩ ?_
  refine R_cs hc171 rfl rfl (at_ok (by rw [hB.2.1]; omega) (by rw [hB.2.1]; exact hsc) (15) (by omega)) (fun r G9 hp9 => ?_)
  obtain ⟨v83, hv83, rfl, rfl⟩ := hp9
  unfold inI at hv83
  refine R_s (f' := (292, [some (vR 0), some (vR 1), some (vI n), some (vI 1), some (vI 0), a5, a6], [vI v83, vI 1, vI 1, vI 0, vR 1], LAY (shA A) (shF F), 487, 41141)) hc171 0 rfl trivial ?_
  refine R_s (P := inI 0 ∧ (0 ≤ 0 ∧ 0 < 32) ∧ True) (f' := (299, [some (vR 0), some (vR 1), some (vI n), some (vI 1), some (vI 0), a5, a6], [vI 15, vI (v83 / 2 ^ (0 : Int).toNat), vI 1, vI 1, vI 0, vR 1], LAY (shA A) (shF F), 487, 41141)) hc171 5 rfl ⟨⟨by omega, by omega⟩, ⟨by omega, by omega⟩, trivial⟩ ?_
  refine R_s (P := True) (f' := (300, [some (vR 0), some (vR 1), some (vI n), some (vI 1), some (vI 0), a5, a6], [vI (bnd (v83 / 2 ^ (0 : Int).toNat) 15), vI 1, vI 1, vI 0, vR 1], LAY (shA A) (shF F), 487, 41141)) hc171 1 rfl trivial ?_
  obtain ⟨z84, hz84, hz84a, hz84b⟩ := bnd_ex (v83 / 2 ^ (0 : Int).toNat) (15) ⟨by decide, by decide⟩
  rw [hz84]
  refine R_s (P := True) (f' := (302, [some (vR 0), some (vR 1), some (vI n), some (vI 1), some (vI 0), a5, a6], [vI 7, vI z84, vI 1, vI 1, vI 0, vR 1], LAY (shA A) (shF F), 487, 41141)) hc171 1 rfl trivial ?_
  refine R_s (P := (0 ≤ z84 ∧ 0 < 7) ∧ True) (f' := (303, [some (vR 0), some (vR 1), some (vI n), some (vI 1), some (vI 0), a5, a6], [vI (z84 % 7), vI 1, vI 1, vI 0, vR 1], LAY (shA A) (shF F), 487, 41141)) hc171 1 rfl ⟨⟨by omega, by omega⟩, trivial⟩ ?_
  obtain ⟨z85, hz85, hz85a, hz85b⟩ := mod_ex (z84) (7) (by omega)
  rw [hz85]
  refine R_s (P := inI (1 + z85) ∧ True) (f' := (304, [some (vR 0), some (vR 1), some (vI n), some (vI 1), some (vI 0), a5, a6], [vI (1 + z85), vI 1, vI 0, vR 1], LAY (shA A) (shF F), 487, 41141)) hc171 1 rfl ⟨⟨by omega, by omega⟩, trivial⟩ ?_
  refine R_cv hc171 rfl rfl (op_part hB.1 (by omega) (0) (1) (1 + z85) ⟨by decide, by decide⟩ ⟨by decide, by decide⟩ ⟨by omega, by omega⟩) (fun r G9 hp9 => ?_)
  obtain ⟨x86, A86, F86, hR86, rfl, rfl, e86, hE86⟩ := hp9
  obtain ⟨hB86, hy86, hw86, hL86⟩ := BI_K hB hR86 e86 hE86
  refine R_s (f' := (307, [some (vR 0), some (vR 1), some (vI n), some (vI 1), some (vI 0), a5, a6], [vI x86], LAY (shA A86) (shF F86), 487, 41141)) hc171 0 rfl trivial ?_
  refine R_s (P := inI 1 ∧ True) (f' := (276, [some (vR 0), some (vR 1), some (vI n), some (vI 1), some (vI 1), a5, a6], [vI 3, vI 1], LAY (shA A86) (shF F86), 487, 41141)) hc171 5 rfl ⟨⟨by omega, by omega⟩, trivial⟩ ?_
  refine R_ic (t := 314) hc171 rfl rfl (fun (z : 3 ≤ 1) => absurd z (by decide)) (fun (_ : ¬ (3 ≤ 1)) => ?_)
  refine R_s (P := inI 15 ∧ True) (f' := (289, [some (vR 0), some (vR 1), some (vI n), some (vI 1), some (vI 1), a5, a6], [vI 15, vR 0, vI 1, vI 1, vI 1, vR 1], LAY (shA A86) (shF F86), 487, 41141)) hc171 8 rfl ⟨⟨by omega, by omega⟩, trivial⟩ ?_
  refine R_cs hc171 rfl rfl (at_ok (by rw [hB86.2.1]; omega) (by rw [hB86.2.1]; exact hsc) (15) (by omega)) (fun r G9 hp9 => ?_)
  obtain ⟨v87, hv87, rfl, rfl⟩ := hp9
  unfold inI at hv87
  refine R_s (f' := (292, [some (vR 0), some (vR 1), some (vI n), some (vI 1), some (vI 1), a5, a6], [vI v87, vI 1, vI 1, vI 1, vR 1], LAY (shA A86) (shF F86), 487, 41141)) hc171 0 rfl trivial ?_
  refine R_s (P := inI 4 ∧ (0 ≤ 4 ∧ 4 < 32) ∧ True) (f' := (299, [some (vR 0), some (vR 1), some (vI n), some (vI 1), some (vI 1), a5, a6], [vI 15, vI (v87 / 2 ^ (4 : Int).toNat), vI 1, vI 1, vI 1, vR 1], LAY (shA A86) (shF F86), 487, 41141)) hc171 5 rfl ⟨⟨by omega, by omega⟩, ⟨by omega, by omega⟩, trivial⟩ ?_
  refine R_s (P := True) (f' := (300, [some (vR 0), some (vR 1), some (vI n), some (vI 1), some (vI 1), a5, a6], [vI (bnd (v87 / 2 ^ (4 : Int).toNat) 15), vI 1, vI 1, vI 1, vR 1], LAY (shA A86) (shF F86), 487, 41141)) hc171 1 rfl trivial ?_
  obtain ⟨z88, hz88, hz88a, hz88b⟩ := bnd_ex (v87 / 2 ^ (4 : Int).toNat) (15) ⟨by decide, by decide⟩
  rw [hz88]
  refine R_s (P := True) (f' := (302, [some (vR 0), some (vR 1), some (vI n), some (vI 1), some (vI 1), a5, a6], [vI 7, vI z88, vI 1, vI 1, vI 1, vR 1], LAY (shA A86) (shF F86), 487, 41141)) hc171 1 rfl trivial ?_
  refine R_s (P := (0 ≤ z88 ∧ 0 < 7) ∧ True) (f' := (303, [some (vR 0), some (vR 1), some (vI n), some (vI 1), some (vI 1), a5, a6], [vI (z88 % 7), vI 1, vI 1, vI 1, vR 1], LAY (shA A86) (shF F86), 487, 41141)) hc171 1 rfl ⟨⟨by omega, by omega⟩, trivial⟩ ?_
  obtain ⟨z89, hz89, hz89a, hz89b⟩ := mod_ex (z88) (7) (by omega)
  rw [hz89]
  refine R_s (P := inI (1 + z89) ∧ True) (f' := (304, [some (vR 0), some (vR 1), some (vI n), some (vI 1), some (vI 1), a5, a6], [vI (1 + z89), vI 1, vI 1, vR 1], LAY (shA A86) (shF F86), 487, 41141)) hc171 1 rfl ⟨⟨by omega, by omega⟩, trivial⟩ ?_
  refine R_cv hc171 rfl rfl (op_part hB86.1 (by omega) (1) (1) (1 + z89) ⟨by decide, by decide⟩ ⟨by decide, by decide⟩ ⟨by omega, by omega⟩) (fun r G9 hp9 => ?_)
  obtain ⟨x90, A90, F90, hR90, rfl, rfl, e90, hE90⟩ := hp9
  obtain ⟨hB90, hy90, hw90, hL90⟩ := BI_K hB86 hR90 e90 hE90
  refine R_s (f' := (307, [some (vR 0), some (vR 1), some (vI n), some (vI 1), some (vI 1), a5, a6], [vI x90], LAY (shA A90) (shF F90), 487, 41141)) hc171 0 rfl trivial ?_
  refine R_s (P := inI 2 ∧ True) (f' := (276, [some (vR 0), some (vR 1), some (vI n), some (vI 1), some (vI 2), a5, a6], [vI 3, vI 2], LAY (shA A90) (shF F90), 487, 41141)) hc171 5 rfl ⟨⟨by omega, by omega⟩, trivial⟩ ?_
  refine R_ic (t := 314) hc171 rfl rfl (fun (z : 3 ≤ 2) => absurd z (by decide)) (fun (_ : ¬ (3 ≤ 2)) => ?_)
  refine R_s (P := inI 15 ∧ True) (f' := (289, [some (vR 0), some (vR 1), some (vI n), some (vI 1), some (vI 2), a5, a6], [vI 15, vR 0, vI 1, vI 1, vI 2, vR 1], LAY (shA A90) (shF F90), 487, 41141)) hc171 8 rfl ⟨⟨by omega, by omega⟩, trivial⟩ ?_
  refine R_cs hc171 rfl rfl (at_ok (by rw [hB90.2.1]; omega) (by rw [hB90.2.1]; exact hsc) (15) (by omega)) (fun r G9 hp9 => ?_)
  obtain ⟨v91, hv91, rfl, rfl⟩ := hp9
  unfold inI at hv91
  refine R_s (f' := (292, [some (vR 0), some (vR 1), some (vI n), some (vI 1), some (vI 2), a5, a6], [vI v91, vI 1, vI 1, vI 2, vR 1], LAY (shA A90) (shF F90), 487, 41141)) hc171 0 rfl trivial ?_
  refine R_s (P := inI 8 ∧ (0 ≤ 8 ∧ 8 < 32) ∧ True) (f' := (299, [some (vR 0), some (vR 1), some (vI n), some (vI 1), some (vI 2), a5, a6], [vI 15, vI (v91 / 2 ^ (8 : Int).toNat), vI 1, vI 1, vI 2, vR 1], LAY (shA A90) (shF F90), 487, 41141)) hc171 5 rfl ⟨⟨by omega, by omega⟩, ⟨by omega, by omega⟩, trivial⟩ ?_
  refine R_s (P := True) (f' := (300, [some (vR 0), some (vR 1), some (vI n), some (vI 1), some (vI 2), a5, a6], [vI (bnd (v91 / 2 ^ (8 : Int).toNat) 15), vI 1, vI 1, vI 2, vR 1], LAY (shA A90) (shF F90), 487, 41141)) hc171 1 rfl trivial ?_
  obtain ⟨z92, hz92, hz92a, hz92b⟩ := bnd_ex (v91 / 2 ^ (8 : Int).toNat) (15) ⟨by decide, by decide⟩
  rw [hz92]
  refine R_s (P := True) (f' := (302, [some (vR 0), some (vR 1), some (vI n), some (vI 1), some (vI 2), a5, a6], [vI 7, vI z92, vI 1, vI 1, vI 2, vR 1], LAY (shA A90) (shF F90), 487, 41141)) hc171 1 rfl trivial ?_
  refine R_s (P := (0 ≤ z92 ∧ 0 < 7) ∧ True) (f' := (303, [some (vR 0), some (vR 1), some (vI n), some (vI 1), some (vI 2), a5, a6], [vI (z92 % 7), vI 1, vI 1, vI 2, vR 1], LAY (shA A90) (shF F90), 487, 41141)) hc171 1 rfl ⟨⟨by omega, by omega⟩, trivial⟩ ?_
  obtain ⟨z93, hz93, hz93a, hz93b⟩ := mod_ex (z92) (7) (by omega)
  rw [hz93]
  refine R_s (P := inI (1 + z93) ∧ True) (f' := (304, [some (vR 0), some (vR 1), some (vI n), some (vI 1), some (vI 2), a5, a6], [vI (1 + z93), vI 1, vI 2, vR 1], LAY (shA A90) (shF F90), 487, 41141)) hc171 1 rfl ⟨⟨by omega, by omega⟩, trivial⟩ ?_
  refine R_cv hc171 rfl rfl (op_part hB90.1 (by omega) (2) (1) (1 + z93) ⟨by decide, by decide⟩ ⟨by decide, by decide⟩ ⟨by omega, by omega⟩) (fun r G9 hp9 => ?_)
  obtain ⟨x94, A94, F94, hR94, rfl, rfl, e94, hE94⟩ := hp9
  obtain ⟨hB94, hy94, hw94, hL94⟩ := BI_K hB90 hR94 e94 hE94
  refine R_s (f' := (307, [some (vR 0), some (vR 1), some (vI n), some (vI 1), some (vI 2), a5, a6], [vI x94], LAY (shA A94) (shF F94), 487, 41141)) hc171 0 rfl trivial ?_
  refine R_s (P := inI 3 ∧ True) (f' := (276, [some (vR 0), some (vR 1), some (vI n), some (vI 1), some (vI 3), a5, a6], [vI 3, vI 3], LAY (shA A94) (shF F94), 487, 41141)) hc171 5 rfl ⟨⟨by omega, by omega⟩, trivial⟩ ?_
  refine R_ic (t := 314) hc171 rfl rfl (fun (_ : 3 ≤ 3) => ?_) (fun (z : ¬ (3 ≤ 3)) => absurd (by decide) z)
  refine R_s (P := inI 2 ∧ True) (f' := (226, [some (vR 0), some (vR 1), some (vI n), some (vI 2), some (vI 3), a5, a6], [], LAY (shA A94) (shF F94), 487, 41141)) hc171 2 rfl ⟨⟨by omega, by omega⟩, trivial⟩ ?_
  exact hk _ A94 F94 _ _ _ (by omega) (by omega) hB94 (by omega) (by omega) (S0_L (BL_tr (BL_tr hL86 hL90) hL94) hS0) (S1_L (BL_tr (BL_tr hL86 hL90) hL94) hS1)

theorem b_deed_1 {sc : List Int} {post : Option AV → AG → Prop} {n : Int} (hn : 2 ≤ n ∧ n ≤ 7) (hlen : sc.length ≤ 260) (hsc : ∀ z ∈ sc, inI z) (hk : ∀ (c : Int) (A : Nat → List Int) (F : Nat → Int) (a4 a5 a6 : Option AV), 0 ≤ c → c ≤ 420 → BI sc c A F → F 0 = 2 → 1 ≤ F 3 → S0 A F → S1 A F → R 171 (270, [some (vR 0), some (vR 1), some (vI n), some (vI 1), a4, a5, a6], [], LAY (shA A) (shF F), 487, 41141) post) (c : Int) (A : Nat → List Int) (F : Nat → Int) (a4 a5 a6 : Option AV) (h0c : 0 ≤ c) (hc : c ≤ 270) (hB : BI sc c A F) (hF0 : F 0 = 1) (hF3 : 1 ≤ F 3) (hS0 : S0 A F) : R 171 (226, [some (vR 0), some (vR 1), some (vI n), some (vI 1), a4, a5, a6], [], LAY (shA A) (shF F), 287, 21141) post := by
  refine R_s (P := True) (f' := (228, [some (vR 0), some (vR 1), some (vI n), some (vI 1), a4, a5, a6], [vI 2, vI 1], LAY (shA A) (shF F), 287, 21141)) hc171 2 rfl trivial ?_
  refine R_ic (t := 320) hc171 rfl rfl (fun (z : 2 ≤ 1) => absurd z (by decide)) (fun (_ : ¬ (2 ≤ 1)) => ?_)
  refine R_s (P := inI 13 ∧ True) (f' := (237, [some (vR 0), some (vR 1), some (vI n), some (vI 1), a4, a5, a6], [vI 13, vR 0, vR 1], LAY (shA A) (shF F), 287, 21141)) hc171 5 rfl ⟨⟨by omega, by omega⟩, trivial⟩ ?_
  refine R_cs hc171 rfl rfl (at_ok (by rw [hB.2.1]; omega) (by rw [hB.2.1]; exact hsc) (13) (by omega)) (fun r G9 hp9 => ?_)
  obtain ⟨v95, hv95, rfl, rfl⟩ := hp9
  unfold inI at hv95
  refine R_s (f' := (240, [some (vR 0), some (vR 1), some (vI n), some (vI 1), a4, a5, a6], [vI v95, vR 1], LAY (shA A) (shF F), 287, 21141)) hc171 0 rfl trivial ?_
  refine R_s (P := True) (f' := (241, [some (vR 0), some (vR 1), some (vI n), some (vI 1), a4, a5, a6], [vI n, vI v95, vR 1], LAY (shA A) (shF F), 287, 21141)) hc171 1 rfl trivial ?_
  refine R_wt (J := JW sc (c) A F) hn (Nat.le_of_ble_eq_true rfl) (Nat.le_of_ble_eq_true rfl) (JW_0 hB) (fun _ _ h => JW_ob h) (fun k ch G h1 h2 h3 h => JW_st (by omega) h1 h2 h3 h) (fun k96 G9 hk96 hJ => ?_)
  obtain ⟨A96, F96, hB96, rfl, hy96, hw96, hL96⟩ := hJ
  have h096 : S0 A96 F96 := S0_L hL96 hS0
  refine R_s (f' := (247, [some (vR 0), some (vR 1), some (vI n), some (vI 1), a4, a5, a6], [], LAY (shA A96) (shF F96), 487, 41141)) hc171 0 rfl trivial ?_
  refine R_s (P := True) (f' := (248, [some (vR 0), some (vR 1), some (vI n), some (vI 1), a4, a5, a6], [vR 1], LAY (shA A96) (shF F96), 487, 41141)) hc171 1 rfl trivial ?_
  refine R_cv hc171 rfl rfl (op_deed_1 hB96.1 (by omega) (by omega)) (fun r G9 hp9 => ?_)
  obtain ⟨x97, A97, F97, hR97, rfl, rfl, e97, p2, p84, p85, p3, q21, q22, q8, hS97, hU97⟩ := hp9
  have hB97 : BI sc _ A97 F97 := ⟨hR97, e97.trans hB96.2.1, p2.trans hB96.2.2.1, p84.trans hB96.2.2.2.1, p85.trans hB96.2.2.2.2⟩
  have h397 := p3
  have h097 : S0 A97 F97 := by unfold S0; rw [q21, q22, q8]; exact h096
  refine R_s (f' := (251, [some (vR 0), some (vR 1), some (vI n), some (vI 1), a4, a5, a6], [vI x97], LAY (shA A97) (shF F97), 487, 41141)) hc171 0 rfl trivial ?_
  refine R_if (t := 270) hc171 rfl rfl (fun (c2 : 0 ≤ x97) => ?_) (fun (c2 : ¬ (0 ≤ x97)) => ?_)
  · have hx0 : 0 ≤ x97 := by omega
    have hok : F97 0 = 2 ∧ S1 A97 F97 := by
      rcases hS97 with h | h
      · exact ⟨by omega, h.2.2⟩
      · exact absurd h.1 (by omega)
    exact hk _ A97 F97 _ _ _ (by omega) (by omega) hB97 hok.1 (by omega) h097 hok.2
  · have hz97 : F97 0 = 1 := by
      rcases hS97 with h | h
      · exact absurd h.1 (by omega)
      · omega
    refine R_s (P := True) (f' := (255, [some (vR 0), some (vR 1), some (vI n), some (vI 1), a4, a5, a6], [vR 1], LAY (shA A97) (shF F97), 487, 41141)) hc171 1 rfl trivial ?_
    refine R_cv hc171 rfl rfl (op_wipe hB97.1 (by omega)  ) (fun r G9 hp9 => ?_)
    obtain ⟨x98, A98, F98, hR98, rfl, rfl, e98, hE98⟩ := hp9
    obtain ⟨hB98, hy98, hw98, hL98⟩ := BI_K hB97 hR98 e98 hE98.1
    have hX98 := hE98.2
    have h098 : S0 A98 F98 := S0_L hL98 h097
    refine R_s (f' := (258, [some (vR 0), some (vR 1), some (vI n), some (vI 1), a4, a5, a6], [vI x98], LAY (shA A98) (shF F98), 487, 41141)) hc171 0 rfl trivial ?_
    refine R_s (P := True) (f' := (262, [some (vR 0), some (vR 1), some (vI n), some (vI 1), a4, a5, a6], [vS 28, vR 1], LAY (shA A98) (shF F98), 487, 41141)) hc171 3 rfl trivial ?_
    refine R_ct (J := JT sc (c + (k96 : Nat) + 1 + 1) A98 F98) (Nat.le_of_ble_eq_true rfl) (Nat.le_of_ble_eq_true rfl) (JT_0 hB98 hX98) (fun _ _ h => JT_ob h) (fun k h1 G h => JT_st (by omega) h1 h) (fun G9 hJ => ?_)
    obtain ⟨A99, F99, hB99, rfl, hy99, hw99, hL99, h599, h1899⟩ := hJ
    have h099 : S0 A99 F99 := S0_L hL99 h098
    refine R_s (f' := (265, [some (vR 0), some (vR 1), some (vI n), some (vI 1), a4, a5, a6], [], LAY (shA A99) (shF F99), 487, 41141)) hc171 0 rfl trivial ?_
    refine R_s (P := True) (f' := (266, [some (vR 0), some (vR 1), some (vI n), some (vI 1), a4, a5, a6], [vR 1], LAY (shA A99) (shF F99), 487, 41141)) hc171 1 rfl trivial ?_
    refine R_cv hc171 rfl rfl (op_deed_1 hB99.1 (by omega) (by omega)) (fun r G9 hp9 => ?_)
    obtain ⟨x100, A100, F100, hR100, rfl, rfl, e100, p2, p84, p85, p3, q21, q22, q8, hS100, hU100⟩ := hp9
    have hB100 : BI sc _ A100 F100 := ⟨hR100, e100.trans hB99.2.1, p2.trans hB99.2.2.1, p84.trans hB99.2.2.2.1, p85.trans hB99.2.2.2.2⟩
    have h3100 := p3
    have h0100 : S0 A100 F100 := by unfold S0; rw [q21, q22, q8]; exact h099
    refine R_s (f' := (269, [some (vR 0), some (vR 1), some (vI n), some (vI 1), a4, a5, a6], [vI x100], LAY (shA A100) (shF F100), 487, 41141)) hc171 0 rfl trivial ?_
    refine R_s (P := True) (f' := (270, [some (vR 0), some (vR 1), some (vI n), some (vI 1), a4, a5, a6], [], LAY (shA A100) (shF F100), 487, 41141)) hc171 1 rfl trivial ?_
    have hfb := fb_ok (l := A99 18) (n := F99 5) (by omega) h1899 (m := F99 3) (by omega)
    have hx0 : 0 ≤ x100 := hU100 2 hfb.1 hfb.2
    have hok : F100 0 = 2 ∧ S1 A100 F100 := by
      rcases hS100 with h | h
      · exact ⟨by omega, h.2.2⟩
      · exact absurd h.1 (by omega)
    exact hk _ A100 F100 _ _ _ (by omega) (by omega) hB100 hok.1 (by omega) h0100 hok.2

def BPOST (sc : List Int) (r : Option AV) (G : AG) : Prop := ∃ (c : Int) (A : Nat → List Int) (F : Nat → Int), 0 ≤ c ∧ c ≤ 500 ∧ BI sc c A F ∧ r = some (vR 1) ∧ G = LAY (shA A) (shF F) ∧ F 0 = 2 ∧ 1 ≤ F 3 ∧ S0 A F ∧ S1 A F
theorem b_end {sc : List Int} {n : Int} (c : Int) (A : Nat → List Int) (F : Nat → Int) (a4 a5 a6 : Option AV) (h0c : 0 ≤ c) (hc : c ≤ 500) (hB : BI sc c A F) (hF0 : F 0 = 2) (hF3 : 1 ≤ F 3) (hS0 : S0 A F) (hS1 : S1 A F) : R 171 (226, [some (vR 0), some (vR 1), some (vI n), some (vI 2), a4, a5, a6], [], LAY (shA A) (shF F), 487, 41141) (BPOST sc) := by
  refine R_s (P := True) (f' := (228, [some (vR 0), some (vR 1), some (vI n), some (vI 2), a4, a5, a6], [vI 2, vI 2], LAY (shA A) (shF F), 487, 41141)) hc171 2 rfl trivial ?_
  refine R_ic (t := 320) hc171 rfl rfl (fun (_ : 2 ≤ 2) => ?_) (fun (z : ¬ (2 ≤ 2)) => absurd (by decide) z)
  refine R_s (P := True) (f' := (321, [some (vR 0), some (vR 1), some (vI n), some (vI 2), a4, a5, a6], [vR 1], LAY (shA A) (shF F), 487, 41141)) hc171 1 rfl trivial ?_
  exact R_reta hc171 rfl rfl ⟨c, A, F, h0c, hc, hB, rfl, rfl, hF0, hF3, hS0, hS1⟩

theorem b_8 {sc : List Int} (hlen : sc.length ≤ 260) (hsc : ∀ z ∈ sc, inI z) (A : Nat → List Int) (F : Nat → Int) (hB : BI sc 0 A F) (hF0 : F 0 = 0) (hF3 : F 3 = 0) : R 171 (8, [some (vR 0), some (vR 1), none, none, none, none, none], [], LAY (shA A) (shF F), 87, 1141) (BPOST sc) := by
  refine R_s (P := True) (f' := (11, [some (vR 0), some (vR 1), none, none, none, none, none], [vI 0, vR 0, vI 2], LAY (shA A) (shF F), 87, 1141)) hc171 3 rfl trivial ?_
  refine R_cs hc171 rfl rfl (at_ok (by rw [hB.2.1]; omega) (by rw [hB.2.1]; exact hsc) (0) (by omega)) (fun r G9 hp9 => ?_)
  obtain ⟨v101, hv101, rfl, rfl⟩ := hp9
  unfold inI at hv101
  refine R_s (f' := (14, [some (vR 0), some (vR 1), none, none, none, none, none], [vI v101, vI 2], LAY (shA A) (shF F), 87, 1141)) hc171 0 rfl trivial ?_
  refine R_s (P := True) (f' := (16, [some (vR 0), some (vR 1), none, none, none, none, none], [vI 7, vI v101, vI 2], LAY (shA A) (shF F), 87, 1141)) hc171 1 rfl trivial ?_
  refine R_s (P := True) (f' := (17, [some (vR 0), some (vR 1), none, none, none, none, none], [vI (bnd v101 7), vI 2], LAY (shA A) (shF F), 87, 1141)) hc171 1 rfl trivial ?_
  obtain ⟨z102, hz102, hz102a, hz102b⟩ := bnd_ex (v101) (7) ⟨by decide, by decide⟩
  rw [hz102]
  refine R_s (P := True) (f' := (19, [some (vR 0), some (vR 1), none, none, none, none, none], [vI 6, vI z102, vI 2], LAY (shA A) (shF F), 87, 1141)) hc171 1 rfl trivial ?_
  refine R_s (P := (0 ≤ z102 ∧ 0 < 6) ∧ True) (f' := (20, [some (vR 0), some (vR 1), none, none, none, none, none], [vI (z102 % 6), vI 2], LAY (shA A) (shF F), 87, 1141)) hc171 1 rfl ⟨⟨by omega, by omega⟩, trivial⟩ ?_
  obtain ⟨z103, hz103, hz103a, hz103b⟩ := mod_ex (z102) (6) (by omega)
  rw [hz103]
  refine R_s (P := inI (2 + z103) ∧ True) (f' := (24, [some (vR 0), some (vR 1), some (vI (2 + z103)), some (vI 0), none, none, none], [], LAY (shA A) (shF F), 87, 1141)) hc171 4 rfl ⟨⟨by omega, by omega⟩, trivial⟩ ?_
  exact b_p (n := 2 + z103) (by omega) hlen hsc (b_t hlen hsc (b_deed_0 (by omega) hlen hsc (b_parts_0 hlen hsc (fun c A F a4 a5 a6 g0 g1 g2 g3 g4 g5 => b_deed_1 (by omega) hlen hsc (b_parts_1 hlen hsc (fun c A F a4 a5 a6 h0 h1 h2 h3 h4 h5 h6 => b_end c A F a4 a5 a6 h0 (by omega) h2 h3 h4 h5 h6)) c A F a4 a5 a6 g0 g1 g2 g3 g4 g5)))) 9 0 0 A F _ _ _ (by omega) (by omega) (by omega) (by omega) (by omega) hB hF0 (.inl ⟨rfl, hF3⟩)

theorem build_ok {sc : List Int} (hlen : sc.length ≤ 260) (hsc : ∀ z ∈ sc, inI z) : R 171 (0, L0 171 [vR 0], [], [eA .int sc], 0, 0) (BPOST sc) :=
  build_start (b_8 hlen hsc (initA sc) initF ⟨REL_init sc, rfl, rfl, rfl, rfl⟩ rfl rfl)
