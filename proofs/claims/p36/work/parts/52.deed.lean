/-- the rows of a deed in one list -/
theorem GH100 (L : List Int) (d : Int) (hd : 0 ≤ d ∧ d < 6) (y0 y1 y2 y3 y4 y5 y6 y7 : List Int) : ∃ l : List Int, l.length = 288 ∧ (∀ q : Int, 0 ≤ q → q < 48 * d → rd l q = rd L q) ∧ ∀ j : Nat, j < 6 → rd l (48 * d + 8 * j) = rd y0 j ∧ rd l (48 * d + 8 * j + 1) = rd y1 j ∧ rd l (48 * d + 8 * j + 2) = rd y2 j ∧ rd l (48 * d + 8 * j + 3) = rd y3 j ∧ rd l (48 * d + 8 * j + 4) = rd y4 j ∧ rd l (48 * d + 8 * j + 5) = rd y5 j - 1 ∧ rd l (48 * d + 8 * j + 6) = rd y6 j ∧ rd l (48 * d + 8 * j + 7) = rd y7 j := by
  obtain ⟨l, h1, h2⟩ := GHl 288 (fun q => if q < 48 * d then rd L q else if (q - 48 * d) % 8 = 0 then rd y0 ((q - 48 * d) / 8) else if (q - 48 * d) % 8 = 1 then rd y1 ((q - 48 * d) / 8) else if (q - 48 * d) % 8 = 2 then rd y2 ((q - 48 * d) / 8) else if (q - 48 * d) % 8 = 3 then rd y3 ((q - 48 * d) / 8) else if (q - 48 * d) % 8 = 4 then rd y4 ((q - 48 * d) / 8) else if (q - 48 * d) % 8 = 5 then rd y5 ((q - 48 * d) / 8) - 1 else if (q - 48 * d) % 8 = 6 then rd y6 ((q - 48 * d) / 8) else rd y7 ((q - 48 * d) / 8))
  have h3 : ∀ q : Int, 0 ≤ q → q < 288 → rd l q = (fun q : Int => if q < 48 * d then rd L q else if (q - 48 * d) % 8 = 0 then rd y0 ((q - 48 * d) / 8) else if (q - 48 * d) % 8 = 1 then rd y1 ((q - 48 * d) / 8) else if (q - 48 * d) % 8 = 2 then rd y2 ((q - 48 * d) / 8) else if (q - 48 * d) % 8 = 3 then rd y3 ((q - 48 * d) / 8) else if (q - 48 * d) % 8 = 4 then rd y4 ((q - 48 * d) / 8) else if (q - 48 * d) % 8 = 5 then rd y5 ((q - 48 * d) / 8) - 1 else if (q - 48 * d) % 8 = 6 then rd y6 ((q - 48 * d) / 8) else rd y7 ((q - 48 * d) / 8)) q := fun q q0 q1 => by
    have z := h2 q.toNat (by omega)
    rw [show ((q.toNat : Nat) : Int) = q by omega] at z
    exact z
  refine ⟨l, h1, fun q q0 q1 => ?_, fun j hj => ?_⟩
  · rw [h3 q q0 (by omega)]
    (try dsimp only)
    rw [if_pos q1]
  · have hw : ∀ c : Int, 0 ≤ c → c < 8 → ¬ (48 * d + 8 * (j : Int) + c < 48 * d) ∧ (48 * d + 8 * (j : Int) + c - 48 * d) % 8 = c ∧ (48 * d + 8 * (j : Int) + c - 48 * d) / 8 = j := fun c c0 c1 => ⟨by omega, by omega, by omega⟩
    have g0 : rd l (48 * d + 8 * j) = rd y0 j := by
      obtain ⟨w1, w2, w3⟩ := hw 0 (by decide) (by decide)
      rw [Int.add_zero] at w1 w2 w3
      rw [h3 _ (by omega) (by omega)]
      (try dsimp only)
      rw [if_neg w1, if_pos w2, w3]
    have g1 : rd l (48 * d + 8 * j + 1) = rd y1 j := by
      obtain ⟨w1, w2, w3⟩ := hw 1 (by decide) (by decide)
      rw [h3 _ (by omega) (by omega)]
      (try dsimp only)
      rw [if_neg w1, if_neg (by rw [w2]; decide), if_pos w2, w3]
    have g2 : rd l (48 * d + 8 * j + 2) = rd y2 j := by
      obtain ⟨w1, w2, w3⟩ := hw 2 (by decide) (by decide)
      rw [h3 _ (by omega) (by omega)]
      (try dsimp only)
      rw [if_neg w1, if_neg (by rw [w2]; decide), if_neg (by rw [w2]; decide), if_pos w2, w3]
    have g3 : rd l (48 * d + 8 * j + 3) = rd y3 j := by
      obtain ⟨w1, w2, w3⟩ := hw 3 (by decide) (by decide)
      rw [h3 _ (by omega) (by omega)]
      (try dsimp only)
      rw [if_neg w1, if_neg (by rw [w2]; decide), if_neg (by rw [w2]; decide), if_neg (by rw [w2]; decide), if_pos w2, w3]
    have g4 : rd l (48 * d + 8 * j + 4) = rd y4 j := by
      obtain ⟨w1, w2, w3⟩ := hw 4 (by decide) (by decide)
      rw [h3 _ (by omega) (by omega)]
      (try dsimp only)
      rw [if_neg w1, if_neg (by rw [w2]; decide), if_neg (by rw [w2]; decide), if_neg (by rw [w2]; decide), if_neg (by rw [w2]; decide), if_pos w2, w3]
    have g5 : rd l (48 * d + 8 * j + 5) = rd y5 j - 1 := by
      obtain ⟨w1, w2, w3⟩ := hw 5 (by decide) (by decide)
      rw [h3 _ (by omega) (by omega)]
      (try dsimp only)
      rw [if_neg w1, if_neg (by rw [w2]; decide), if_neg (by rw [w2]; decide), if_neg (by rw [w2]; decide), if_neg (by rw [w2]; decide), if_neg (by rw [w2]; decide), if_pos w2, w3]
    have g6 : rd l (48 * d + 8 * j + 6) = rd y6 j := by
      obtain ⟨w1, w2, w3⟩ := hw 6 (by decide) (by decide)
      rw [h3 _ (by omega) (by omega)]
      (try dsimp only)
      rw [if_neg w1, if_neg (by rw [w2]; decide), if_neg (by rw [w2]; decide), if_neg (by rw [w2]; decide), if_neg (by rw [w2]; decide), if_neg (by rw [w2]; decide), if_neg (by rw [w2]; decide), if_pos w2, w3]
    have g7 : rd l (48 * d + 8 * j + 7) = rd y7 j := by
      obtain ⟨w1, w2, w3⟩ := hw 7 (by decide) (by decide)
      rw [h3 _ (by omega) (by omega)]
      (try dsimp only)
      rw [if_neg w1, if_neg (by rw [w2]; decide), if_neg (by rw [w2]; decide), if_neg (by rw [w2]; decide), if_neg (by rw [w2]; decide), if_neg (by rw [w2]; decide), if_neg (by rw [w2]; decide), if_neg (by rw [w2]; decide), w3]
    exact ⟨g0, g1, g2, g3, g4, g5, g6, g7⟩

theorem dGl_v {l : List Int} {n : Int} : ∀ (k : Nat) (v a M : Int), 0 ≤ v → v + 1 ≤ M → 0 ≤ (dGl l n k v a).1 ∧ (dGl l n k v a).1 + 1 ≤ M * 10 ^ k
  | 0, v, a, M, h0, h1 => by
    simp only [dGl]
    exact ⟨h0, by rw [Int.pow_zero]; omega⟩
  | k + 1, v, a, M, h0, h1 => by
    simp only [dGl]
    have hp : M * 10 ^ (k + 1) = M * 10 ^ k * 10 := by rw [Int.pow_succ, ← Int.mul_assoc]
    split
    · have z := dGl_v (l := l) (n := n) k (v * 10 + nx l n a - 48) (a + 1) (M * 10) (by omega) (by omega)
      have e : M * 10 * 10 ^ k = M * 10 ^ k * 10 := by rw [Int.mul_assoc, Int.mul_comm 10, ← Int.mul_assoc]
      rw [e] at z
      rw [hp]
      exact z
    · have h5 : M ≤ M * 10 ^ k := by
        have := Int.mul_le_mul_of_nonneg_left (show (1 : Int) ≤ 10 ^ k from Int.pow_pos (by decide)) (show 0 ≤ M by omega)
        omega
      exact ⟨h0, by rw [hp]; (try dsimp only); omega⟩
theorem dG_v {l : List Int} {n : Int} {s : Int × Int} (k : Nat) (hk : k ≤ 4) : 0 ≤ (dG l n k s).2 ∧ (dG l n k s).2 ≤ 9999 := by
  unfold dG
  split
  · have z := dGl_v (l := l) (n := n) k 0 s.2 1 (by decide) (by decide)
    have e : (10 : Int) ^ k ≤ 10 ^ 4 := by
      obtain e | e | e | e | e : k = 0 ∨ k = 1 ∨ k = 2 ∨ k = 3 ∨ k = 4 := by omega
      all_goals rw [e]; decide
    have e4 : (10 : Int) ^ 4 = 10000 := by decide
    (try dsimp only)
    omega
  · (try dsimp only)
    omega
theorem eV_num {l : List Int} {n : Int} {i : Nat} {s : Int × Int} {k nu ro ho he fi si th : Int} (h : eV l n i s k nu ro ho he fi si th) : (k = 0 ∨ k = 1 ∨ k = 2 → 0 ≤ nu ∧ nu ≤ 9999) ∧ (k = 1 ∨ k = 2 → 0 ≤ ro) := by
  obtain ⟨h0, h1, h2, h3, h4, h5⟩ := h
  refine ⟨fun q => ?_, fun q => ?_⟩
  · rcases q with q | q | q
    · rw [(h1 q).1]
      exact dG_v 4 (by decide)
    · rw [(h2 q).1]
      exact dG_v 4 (by decide)
    · rw [(h3 q).1]
      exact dG_v 4 (by decide)
  · rcases q with q | q
    · rw [(h2 q).2.1]
      exact (dG_v 2 (by decide)).1
    · rw [(h3 q).2]
      exact (dG_v 2 (by decide)).1
theorem DEED_keep {n e : Int} {K N Ro Ho He Fi Si Th mE mEnd mE' mEnd' : List Int} {d : Int} (hd : 0 ≤ d) (h : DEED n e K N Ro Ho He Fi Si Th mE mEnd d) (h1 : rd mE' d = rd mE d) (h2 : ∀ q : Int, 48 * d ≤ q → q < 48 * d + 48 → rd mEnd' q = rd mEnd q) : DEED n e K N Ro Ho He Fi Si Th mE' mEnd' d := by
  obtain ⟨a1, a2, a3, a4, a5⟩ := h
  refine ⟨a1, a2, by rw [h1]; exact a3, a4, fun i hi hi2 => ?_⟩
  have z := a5 i hi hi2
  rw [h2 _ (by omega) (by omega), h2 _ (by omega) (by omega), h2 _ (by omega) (by omega), h2 _ (by omega) (by omega), h2 _ (by omega) (by omega), h2 _ (by omega) (by omega), h2 _ (by omega) (by omega), h2 _ (by omega) (by omega)]
  exact z
set_option maxHeartbeats 16000000 in
theorem DEED_new {l : List Int} {n : Int} {np d : Int} {e : Nat} {K N Ro Ho He Fi Si Th mE mEnd : List Int} (hs : sUCC l n e) (hc : ∀ j : Nat, j < e → eV l n j (sT l n j) (rd K j) (rd N j) (rd Ro j) (rd Ho j) (rd He j) (rd Fi j) (rd Si j) (rd Th j))
    (hm : ∀ j : Nat, j < e → eV l n j (sT l n j) (rd mEnd (48 * d + 8 * j)) (rd mEnd (48 * d + 8 * j + 1)) (rd mEnd (48 * d + 8 * j + 2)) (rd mEnd (48 * d + 8 * j + 3)) (rd mEnd (48 * d + 8 * j + 4)) (rd mEnd (48 * d + 8 * j + 5) + 1) (rd mEnd (48 * d + 8 * j + 6)) (rd mEnd (48 * d + 8 * j + 7)))
    (hE : rd mE d = e) (hS : sOUND (fun j => rd K j) (fun j => rd N j) (fun j => rd Ro j) np e) : DEED np e K N Ro Ho He Fi Si Th mE mEnd d := by
  obtain ⟨i0, e0, h6, hg, hl, hk⟩ := hs
  have hok : ∀ j : Nat, j < e → (eN l n j (sT l n j)).1 = 0 ∧ (eK l n j (sT l n j) = 3 → j = i0) := fun j hj => by
    by_cases q : j = i0
    · rw [q, hl]
      exact ⟨rfl, fun _ => rfl⟩
    · have z := hg j (by omega)
      exact ⟨z.1, fun w => absurd w z.2.1⟩
  refine ⟨by omega, by omega, hE, ?_, fun i hi hi2 => ?_⟩
  · have z := (hc i0 (by omega)).1
    rw [show ((e : Nat) : Int) - 1 = (i0 : Int) by omega, z]
    exact hk
  · have z1 := hc i.toNat (by omega)
    have z2 := hm i.toNat (by omega)
    have z3 := hok i.toNat (by omega)
    have z4 := hS.1 i.toNat (by omega)
    have b1 := eV_num z1
    have e9 : ((i.toNat : Nat) : Int) = i := by omega
    have hsm := sm_ge (g := fun j => if rd K j = 1 then rd N j else 0) (p := i.toNat) e (by omega) (fun j hj => by
      (try dsimp only)
      split
      · rename_i q
        exact ((eV_num (hc j hj)).1 (.inr (.inl q))).1
      · exact Int.le_refl 0)
    have hS2 := hS.2
    (try dsimp only at hsm hS2 z4)
    rw [e9] at z1 z2 z4 b1 hsm
    obtain ⟨p0, p1, p2, p3, p4, p5⟩ := z1
    obtain ⟨r0, r1, r2, r3, r4, r5⟩ := z2
    have hkc := eK_c (l := l) (n := n) (i := i.toNat) (s := sT l n i.toNat)
    rw [← p0] at hkc r0 z3
    rw [r0] at r1 r2 r3 r4 r5
    unfold bAD at z4
    have htf := tF_c (l := l) (n := n) (s := tB l n i.toNat (sT l n i.toNat))
    have hro : rd K i = 1 ∨ rd K i = 2 → rd Ro i < np := fun q => Int.not_le.mp (fun w => z4 (.inl ⟨q, w⟩))
    have hnu : rd K i = 2 → rd N i ≤ 100 := fun q => Int.not_lt.mp (fun w => z4 (.inr ⟨q, w⟩))
    clear z4
    have hi3 : rd K i = 3 → i = (e : Int) - 1 := fun q => by
      have := z3.2 q
      clear p1 p2 p3 p4 p5 r1 r2 r3 r4 r5; clear hsm hS2 hro hnu
      omega
    have hi2z : rd K i = 2 → i = 0 := fun q => by
      clear p1 p2 p3 p4 p5 r1 r2 r3 r4 r5; clear hsm hS2 hro hnu hi3
      omega
    have hkk : rd K i = 0 ∨ rd K i = 1 ∨ rd K i = 2 ∨ rd K i = 3 := by
      clear p1 p2 p3 p4 p5 r1 r2 r3 r4 r5; clear hsm hS2 hro hnu hi3 hi2z
      omega
    refine ⟨r0, hkk, hi3, fun q => ⟨hi2z q, hnu q⟩, ?_, fun q => ?_, fun q => ?_, fun q => ?_, ?_, ?_⟩
    · by_cases q : rd K i = 3
      · exact .inl q
      · refine .inr ⟨?_, b1.1 (by clear p1 p2 p3 p4 p5 r1 r2 r3 r4 r5; omega)⟩
        rcases hkc with w | w | w | w
        · rw [(r1 w).1, (p1 w).1]
        · rw [(r2 w).1, (p2 w).1]
        · rw [(r3 w.1).1, (p3 w.1).1]
        · exact absurd w q
    · refine ⟨?_, b1.2 q, hro q⟩
      rcases q with w | w
      · rw [(r2 w).2.1, (p2 w).2.1]
      · rw [(r3 w).2, (p3 w).2]
    · rcases q with w | w
      · rw [(r1 w).2, (p1 w).2]
        exact ⟨rfl, hS_bd.1, hS_bd.2⟩
      · rw [(r4 w).1, (p4 w).1]
        exact ⟨rfl, hS_bd.1, hS_bd.2⟩
    · rw [(r2 q).2.2, (p2 q).2.2]
      rw [if_pos q] at hsm
      exact ⟨rfl, by split <;> first | exact .inl rfl | exact .inr rfl, Int.le_trans hsm hS2⟩
    · by_cases q : rd K i = 3
      · have w1 := (p4 q).2
        have w2 := (r4 q).2
        clear p1 p2 p3 p4 p5 r1 r2 r3 r4 r5; omega
      · have w1 := (p5 q).1
        have w2 := (r5 q).1
        clear p1 p2 p3 p4 p5 r1 r2 r3 r4 r5; omega
    · by_cases q : rd K i = 3
      · exact .inl (p4 q).2
      · have w1 := p5 q
        have w2 := r5 q
        rcases w1.2 with w | w
        · exact .inl w
        · by_cases y : rd Fi i = 0
          · exact .inl y
          · have w3 := w2.2.resolve_left (by clear p1 p2 p3 p4 p5 r1 r2 r3 r4 r5; omega)
            refine .inr ⟨by rw [w3.1, w.1], by rw [w3.2, w.2], ?_⟩
            rw [w.1]
            refine tG_c ?_ (by clear p1 p2 p3 p4 p5 r1 r2 r3 r4 r5; omega)
            have w4 := z3.1
            unfold eN at w4
            rw [if_neg (by rw [← p0]; exact q)] at w4
            exact w4
set_option maxHeartbeats 4000000 in
theorem op_deed_0 {c : Int} {A : Nat → List Int} {F : Nat → Int} (hR : REL c A F) (hc : c < 1000000) (hd : F 0 = 0) : R 72 (0, L0 72 [vR 1], [], LAY (shA A) (shF F), 0, 0) (fun r G => ∃ (x : Int) (A' : Nat → List Int) (F' : Nat → Int), REL (c + 1) A' F' ∧ r = some (vI x) ∧ G = LAY (shA A') (shF F') ∧ A' 0 = A 0 ∧ F' 2 = F 2 ∧ A' 84 = A 84 ∧ A' 85 = A 85 ∧ F' 3 = F 3 ∧ ((0 ≤ x ∧ F' 0 = F 0 + 1 ∧ sm (fun j : Nat => if rd (A' 21) j = 1 then rd (A' 22) j else 0) (F' 8).toNat ≤ 12) ∨ (x < 0 ∧ F' 0 = F 0)) ∧ ∀ n : Nat, sUCC (A 18) (F 5) n → (∀ K N Ro Ho He Fi Si Th : Nat → Int, (∀ j : Nat, j < n → eV (A 18) (F 5) j (sT (A 18) (F 5) j) (K j) (N j) (Ro j) (Ho j) (He j) (Fi j) (Si j) (Th j)) → sOUND K N Ro (F 3) n) → 0 ≤ x) := by
  have hR0 := hR
  obtain ⟨hL, hPE, hTH, hTP, hDE, hLE, hNO, hAC, hRO, hRE⟩ := hR
  have h87 : (A 87).length = 9 := hL 87 (by decide)
  have h99 : (A 99).length = 6 := hL 99 (by decide)
  have r2 := REFU_at hRE (k := 2) (by decide) (by decide) hc
  have r3 := REFU_at hRE (k := 3) (by decide) (by decide) hc
  have r4 := REFU_at hRE (k := 4) (by decide) (by decide) hc
  have r5 := REFU_at hRE (k := 5) (by decide) (by decide) hc
  have r6 := REFU_at hRE (k := 6) (by decide) (by decide) hc
  have r7 := REFU_at hRE (k := 7) (by decide) (by decide) hc
  have r8 := REFU_at hRE (k := 8) (by decide) (by decide) hc
  obtain ⟨t1, t2, t3, t4, t5, t6⟩ := hTH
  obtain ⟨p1, p2, p3, p4, p5, p6⟩ := hPE
  have hT1 := hR0.2.2.2.1
  have hDE2 := hR0.2.2.2.2.1.2
  have x0 : (A 21).length = 6 := hL 21 (by decide)
  have x1 : (A 22).length = 6 := hL 22 (by decide)
  have x2 : (A 23).length = 6 := hL 23 (by decide)
  have x3 : (A 24).length = 6 := hL 24 (by decide)
  have x4 : (A 25).length = 6 := hL 25 (by decide)
  have x5 : (A 26).length = 6 := hL 26 (by decide)
  have x6 : (A 27).length = 6 := hL 27 (by decide)
  have x7 : (A 28).length = 6 := hL 28 (by decide)
  refine R_s (P := True) (f' := (6, [some (vR 1), none], [vI 6, vI (F 0)], LAY (shA A) (shF F), 0, 0)) hc72 3 rfl trivial ?_
  refine R_ic (t := 16) hc72 rfl rfl (fun (_ : F 0 < 6) => ?_) (fun (z : ¬ (F 0 < 6)) => absurd (show F 0 < 6 by omega) z)
  refine R_s (P := True) (f' := (24, [some (vR 1), none], [vI (F 0), vR 19], LAY (shA A) (shF F), 0, 0)) hc72 4 rfl trivial ?_
  rw [hd]
  refine R_s (P := (0 ≤ (0 : Int) ∧ (0 : Int) < (([some 20, some 29, some 38, some 47, some 56, some 65] : List (Option Nat)).length : Int)) ∧ True) (f' := (42, [some (vR 1), some (vR 20)], [vR 20, vR 17], LAY (shA A) (shF F), 0, 0)) hc72 7 rfl ⟨(by decide), trivial⟩ ?_
  refine R_cv hc72 rfl rfl (l_rdeed0 (A := shA A) (F := shF F) (LENS_sh hL) hT1) (fun r G9 hp9 => ?_)
  obtain ⟨yc, y0, y1, y2, y3, y4, y5, y6, y7, ya, yv, ye, rfl, rfl, ly0, ly1, ly2, ly3, ly4, ly5, ly6, ly7, yab, hcase0⟩ := hp9
  have yab : 0 ≤ ya ∧ ya ≤ F 5 := yab
  have hcase : (yc = 0 ∧ fAIL (A 18) (F 5) ya) ∨ (yc = 1 ∧ ∃ n : Nat, ye = n ∧ sUCC (A 18) (F 5) n ∧ ∀ j : Nat, j < n → eV (A 18) (F 5) j (sT (A 18) (F 5) j) (rd y0 j) (rd y1 j) (rd y2 j) (rd y3 j) (rd y4 j) (rd y5 j) (rd y6 j) (rd y7 j)) := hcase0
  have yc1 : yc = 0 ∨ yc = 1 := by omega
  refine R_s (f' := (45, [some (vR 1), some (vR 20)], [vI yc], LAY (u (u (u (u (u (u (u (u (shA A) 21 y0) 22 y1) 23 y2) 24 y3) 25 y4) 26 y5) 27 y6) 28 y7) (u (u (u (shF F) 6 ya) 7 yv) 8 ye), 0, 0)) hc72 0 rfl trivial ?_
  refine R_if (t := 59) hc72 rfl rfl (fun (c2 : ¬ yc = 0) => ?_) (fun (c2 : ¬ (¬ yc = 0)) => ?_)
  · obtain ⟨n, hyn, hsu, hev⟩ := (hcase.resolve_left (fun z => by omega)).2
    have hn6 : 1 ≤ n ∧ n ≤ 6 := by
      obtain ⟨i0, e0, h6, -⟩ := hsu
      omega
    obtain ⟨l100, k100, kk, e100⟩ := GH100 (A 100) 0 (by decide) y0 y1 y2 y3 y4 y5 y6 y7
    have hem : ∀ j : Nat, j < n → eV (A 18) (F 5) j (sT (A 18) (F 5) j) (rd l100 (48 * 0 + 8 * j)) (rd l100 (48 * 0 + 8 * j + 1)) (rd l100 (48 * 0 + 8 * j + 2)) (rd l100 (48 * 0 + 8 * j + 3)) (rd l100 (48 * 0 + 8 * j + 4)) (rd l100 (48 * 0 + 8 * j + 5) + 1) (rd l100 (48 * 0 + 8 * j + 6)) (rd l100 (48 * 0 + 8 * j + 7)) := fun j hj => by
      have z := e100 j (by omega)
      rw [z.1, z.2.1, z.2.2.1, z.2.2.2.1, z.2.2.2.2.1, z.2.2.2.2.2.1, z.2.2.2.2.2.2.1, z.2.2.2.2.2.2.2, show rd y5 j - 1 + 1 = rd y5 j by omega]
      exact hev j hj
    refine R_s (P := True) (f' := (67, [some (vR 1), some (vR 20)], [vI (F 3), vR 20], LAY (u (u (u (u (u (u (u (u (shA A) 21 y0) 22 y1) 23 y2) 24 y3) 25 y4) 26 y5) 27 y6) 28 y7) (u (u (u (shF F) 6 ya) 7 yv) 8 ye), 0, 0)) hc72 4 rfl trivial ?_
    refine R_cv hc72 rfl rfl (l_sound0 (A := (u (u (u (u (u (u (u (u (shA A) 21 y0) 22 y1) 23 y2) 24 y3) 25 y4) 26 y5) 27 y6) 28 y7)) (F := (u (u (u (shF F) 6 ya) 7 yv) 8 ye)) (LENS_u (LENS_u (LENS_u (LENS_u (LENS_u (LENS_u (LENS_u (LENS_u (LENS_sh hL) (by show y0.length = (A 21).length; omega)) (by show y1.length = (A 22).length; omega)) (by show y2.length = (A 23).length; omega)) (by show y3.length = (A 24).length; omega)) (by show y4.length = (A 25).length; omega)) (by show y5.length = (A 26).length; omega)) (by show y6.length = (A 27).length; omega)) (by show y7.length = (A 28).length; omega)) (e := n) hn6.2 hyn (fun j hj q => ((eV_num (hev j hj)).1 (.inr (.inl q))))) (fun r G9 hp9 => ?_)
    obtain ⟨yd, rfl, rfl, hsd0⟩ := hp9
    have hsd : (yd = 1 ∧ sOUND (fun j => rd y0 j) (fun j => rd y1 j) (fun j => rd y2 j) (F 3) n) ∨ (yd = 0 ∧ ¬ sOUND (fun j => rd y0 j) (fun j => rd y1 j) (fun j => rd y2 j) (F 3) n) := hsd0
    have yd1 : yd = 0 ∨ yd = 1 := by omega
    refine R_s (f' := (70, [some (vR 1), some (vR 20)], [vI yd], LAY (u (u (u (u (u (u (u (u (shA A) 21 y0) 22 y1) 23 y2) 24 y3) 25 y4) 26 y5) 27 y6) 28 y7) (u (u (u (shF F) 6 ya) 7 yv) 8 ye), 0, 0)) hc72 0 rfl trivial ?_
    refine R_if (t := 80) hc72 rfl rfl (fun (c3 : ¬ yd = 0) => ?_) (fun (c3 : ¬ (¬ yd = 0)) => ?_)
    · refine R_s (P := inI ((F 0) + 1) ∧ inI (((F 0) + 1) - 1) ∧ True) (f' := (104, [some (vR 1), some (vR 20)], [vI (((F 0) + 1) - 1)], LAY (u (u (u (u (u (u (u (u (shA A) 21 y0) 22 y1) 23 y2) 24 y3) 25 y4) 26 y5) 27 y6) 28 y7) (u (u (u (u (u (shF F) 6 ya) 7 yv) 8 ye) 5 0) 0 ((F 0) + 1)), 0, 0)) hc72 14 rfl ⟨⟨by omega, by omega⟩, ⟨by omega, by omega⟩, trivial⟩ ?_
      refine R_reti hc72 rfl rfl ?_
      first
        | (exfalso; omega; done)
        | exact ⟨((F 0) + 1) - 1, (u (u (u (u (u (u (u (u (u (u A 21 y0) 22 y1) 23 y2) 24 y3) 25 y4) 26 y5) 27 y6) 28 y7) 99 (wr (A 99) (F 0) ye)) 100 l100), (u (u (u (u (u F 6 ya) 7 yv) 8 ye) 5 0) 0 ((F 0) + 1)), ⟨(LENS_u (LENS_u (LENS_u (LENS_u (LENS_u (LENS_u (LENS_u (LENS_u (LENS_u (LENS_u hL (by show (y0).length = (A 21).length; rw [ly0, hL 21 (by decide)]; rfl)) (by show (y1).length = (A 22).length; rw [ly1, hL 22 (by decide)]; rfl)) (by show (y2).length = (A 23).length; rw [ly2, hL 23 (by decide)]; rfl)) (by show (y3).length = (A 24).length; rw [ly3, hL 24 (by decide)]; rfl)) (by show (y4).length = (A 25).length; rw [ly4, hL 25 (by decide)]; rfl)) (by show (y5).length = (A 26).length; rw [ly5, hL 26 (by decide)]; rfl)) (by show (y6).length = (A 27).length; rw [ly6, hL 27 (by decide)]; rfl)) (by show (y7).length = (A 28).length; rw [ly7, hL 28 (by decide)]; rfl)) (by show (wr (A 99) (F 0) ye).length = (A 99).length; simp only [wr_len])) (by show (l100).length = (A 100).length; rw [k100, hL 100 (by decide)]; rfl)), hR0.2.1, hR0.2.2.1, ⟨(show (0 : Int) ≤ 0 by decide), (show (0 : Int) ≤ 120 by decide)⟩, ⟨⟨(show 0 ≤ F 0 + 1 by omega), (show F 0 + 1 ≤ 6 by omega)⟩, fun _ => by
              have z := DEED_new (mE := wr (A 99) (F 0) ye) (d := 0) hsu hev hem (by rw [hd, rd_wr_s (by omega) (by rw [hL 99 (by decide)]; decide)]; exact hyn) (hsd.resolve_right (fun z => by omega)).2
              rw [← hyn] at z
              exact z, fun q => absurd (show (1 : Int) < F 0 + 1 from q) (by omega), fun q => absurd (show (2 : Int) < F 0 + 1 from q) (by omega), fun q => absurd (show (3 : Int) < F 0 + 1 from q) (by omega), fun q => absurd (show (4 : Int) < F 0 + 1 from q) (by omega), fun q => absurd (show (5 : Int) < F 0 + 1 from q) (by omega)⟩, hR0.2.2.2.2.2.1, hR0.2.2.2.2.2.2.1, hR0.2.2.2.2.2.2.2.1, hR0.2.2.2.2.2.2.2.2.1, (REFU_c hR0.2.2.2.2.2.2.2.2.2)⟩, rfl, rfl, rfl, ⟨rfl, rfl, rfl, rfl, .inl ⟨by omega, (by first | rfl | exact hd | (show F 0 + 1 = _; rw [hd])), by have z := (hsd.resolve_right (fun z => by omega)).2.2; have e9 : n = (ye : Int).toNat := (by omega); rw [e9] at z; exact z⟩, fun _ _ _ => by omega⟩⟩
    · refine R_s (P := True) (f' := (76, [some (vR 1), some (vR 20)], [vI (-7), vR 1], LAY (u (u (u (u (u (u (u (u (shA A) 21 y0) 22 y1) 23 y2) 24 y3) 25 y4) 26 y5) 27 y6) 28 y7) (u (u (u (shF F) 6 ya) 7 yv) 8 ye), 0, 0)) hc72 2 rfl trivial ?_
      refine R_cv hc72 rfl rfl ?_ (fun r G h => h)
      refine R_s (P := True) (f' := (3, [some (vR 1), some (vI (-7))], [vI (-2), vI (-7)], LAY (u (u (u (u (u (u (u (u (shA A) 21 y0) 22 y1) 23 y2) 24 y3) 25 y4) 26 y5) 27 y6) 28 y7) (u (u (u (shF F) 6 ya) 7 yv) 8 ye), 0, 0)) hc93 2 rfl trivial ?_
      refine R_ic (t := 23) hc93 rfl rfl (fun (z : (-2) < (-7)) => absurd z (by decide)) (fun (_ : ¬ ((-2) < (-7))) => ?_)
      refine R_s (P := True) (f' := (9, [some (vR 1), some (vI (-7))], [vI (-8), vI (-7)], LAY (u (u (u (u (u (u (u (u (shA A) 21 y0) 22 y1) 23 y2) 24 y3) 25 y4) 26 y5) 27 y6) 28 y7) (u (u (u (shF F) 6 ya) 7 yv) 8 ye), 0, 0)) hc93 2 rfl trivial ?_
      refine R_ic (t := 23) hc93 rfl rfl (fun (z : (-7) < (-8)) => absurd z (by decide)) (fun (_ : ¬ ((-7) < (-8))) => ?_)
      refine R_s (P := inI 7 ∧ (0 ≤ 7 ∧ 7 < ((A 87).length : Int)) ∧ inI ((rd (A 87) 7) + 1) ∧ (0 ≤ 7 ∧ 7 < ((A 87).length : Int)) ∧ True) (f' := (24, [some (vR 1), some (vI (-7))], [vI (-7)], LAY (u (u (u (u (u (u (u (u (u (shA A) 21 y0) 22 y1) 23 y2) 24 y3) 25 y4) 26 y5) 27 y6) 28 y7) 87 (wr (A 87) 7 ((rd (A 87) 7) + 1))) (u (u (u (shF F) 6 ya) 7 yv) 8 ye), 0, 0)) hc93 10 rfl ⟨⟨by omega, by omega⟩, ⟨by omega, by omega⟩, ⟨by omega, by omega⟩, ⟨by omega, by omega⟩, trivial⟩ ?_
      refine R_reti hc93 rfl rfl ?_
      refine R_s (f' := (79, [some (vR 1), some (vR 20)], [vI (-7)], LAY (u (u (u (u (u (u (u (u (u (shA A) 21 y0) 22 y1) 23 y2) 24 y3) 25 y4) 26 y5) 27 y6) 28 y7) 87 (wr (A 87) 7 ((rd (A 87) 7) + 1))) (u (u (u (shF F) 6 ya) 7 yv) 8 ye), 0, 0)) hc72 0 rfl trivial ?_
      refine R_reti hc72 rfl rfl ?_
      first
        | (exfalso; omega; done)
        | exact ⟨(-7), (u (u (u (u (u (u (u (u (u A 21 y0) 22 y1) 23 y2) 24 y3) 25 y4) 26 y5) 27 y6) 28 y7) 87 (wr (A 87) 7 ((rd (A 87) 7) + 1))), (u (u (u F 6 ya) 7 yv) 8 ye), ⟨(LENS_u (LENS_u (LENS_u (LENS_u (LENS_u (LENS_u (LENS_u (LENS_u (LENS_u hL (by show (y0).length = (A 21).length; rw [ly0, hL 21 (by decide)]; rfl)) (by show (y1).length = (A 22).length; rw [ly1, hL 22 (by decide)]; rfl)) (by show (y2).length = (A 23).length; rw [ly2, hL 23 (by decide)]; rfl)) (by show (y3).length = (A 24).length; rw [ly3, hL 24 (by decide)]; rfl)) (by show (y4).length = (A 25).length; rw [ly4, hL 25 (by decide)]; rfl)) (by show (y5).length = (A 26).length; rw [ly5, hL 26 (by decide)]; rfl)) (by show (y6).length = (A 27).length; rw [ly6, hL 27 (by decide)]; rfl)) (by show (y7).length = (A 28).length; rw [ly7, hL 28 (by decide)]; rfl)) (wr_len _ _ _)), hR0.2.1, hR0.2.2.1, hR0.2.2.2.1, ⟨⟨(show 0 ≤ F 0 by omega), (show F 0 ≤ 6 by omega)⟩, fun q => absurd (show (0 : Int) < F 0 from q) (by omega), fun q => absurd (show (1 : Int) < F 0 from q) (by omega), fun q => absurd (show (2 : Int) < F 0 from q) (by omega), fun q => absurd (show (3 : Int) < F 0 from q) (by omega), fun q => absurd (show (4 : Int) < F 0 from q) (by omega), fun q => absurd (show (5 : Int) < F 0 from q) (by omega)⟩, hR0.2.2.2.2.2.1, hR0.2.2.2.2.2.2.1, hR0.2.2.2.2.2.2.2.1, hR0.2.2.2.2.2.2.2.2.1, (REFU_up hR0.2.2.2.2.2.2.2.2.2 (hL 87 (by decide)) (by decide) (by decide))⟩, rfl, rfl, rfl, ⟨rfl, rfl, rfl, rfl, .inr ⟨by omega, (by first | rfl | exact hd)⟩, fun n2 h1 h2 => by have e9 := sUCC_eq h1 hsu; subst e9; exact absurd (h2 (fun j => rd y0 j) (fun j => rd y1 j) (fun j => rd y2 j) (fun j => rd y3 j) (fun j => rd y4 j) (fun j => rd y5 j) (fun j => rd y6 j) (fun j => rd y7 j) hev) (hsd.resolve_left (fun z => by omega)).2⟩⟩
  · refine R_s (P := inI ((-10) - ya) ∧ True) (f' := (58, [some (vR 1), some (vR 20)], [vI ((-10) - ya)], LAY (u (u (u (u (u (u (u (u (shA A) 21 y0) 22 y1) 23 y2) 24 y3) 25 y4) 26 y5) 27 y6) 28 y7) (u (u (u (shF F) 6 ya) 7 yv) 8 ye), 0, 0)) hc72 5 rfl ⟨⟨by omega, by omega⟩, trivial⟩ ?_
    refine R_reti hc72 rfl rfl ?_
    first
      | (exfalso; omega; done)
      | exact ⟨(-10) - ya, (u (u (u (u (u (u (u (u A 21 y0) 22 y1) 23 y2) 24 y3) 25 y4) 26 y5) 27 y6) 28 y7), (u (u (u F 6 ya) 7 yv) 8 ye), ⟨(LENS_u (LENS_u (LENS_u (LENS_u (LENS_u (LENS_u (LENS_u (LENS_u hL (by show (y0).length = (A 21).length; rw [ly0, hL 21 (by decide)]; rfl)) (by show (y1).length = (A 22).length; rw [ly1, hL 22 (by decide)]; rfl)) (by show (y2).length = (A 23).length; rw [ly2, hL 23 (by decide)]; rfl)) (by show (y3).length = (A 24).length; rw [ly3, hL 24 (by decide)]; rfl)) (by show (y4).length = (A 25).length; rw [ly4, hL 25 (by decide)]; rfl)) (by show (y5).length = (A 26).length; rw [ly5, hL 26 (by decide)]; rfl)) (by show (y6).length = (A 27).length; rw [ly6, hL 27 (by decide)]; rfl)) (by show (y7).length = (A 28).length; rw [ly7, hL 28 (by decide)]; rfl)), hR0.2.1, hR0.2.2.1, hR0.2.2.2.1, ⟨⟨(show 0 ≤ F 0 by omega), (show F 0 ≤ 6 by omega)⟩, fun q => absurd (show (0 : Int) < F 0 from q) (by omega), fun q => absurd (show (1 : Int) < F 0 from q) (by omega), fun q => absurd (show (2 : Int) < F 0 from q) (by omega), fun q => absurd (show (3 : Int) < F 0 from q) (by omega), fun q => absurd (show (4 : Int) < F 0 from q) (by omega), fun q => absurd (show (5 : Int) < F 0 from q) (by omega)⟩, hR0.2.2.2.2.2.1, hR0.2.2.2.2.2.2.1, hR0.2.2.2.2.2.2.2.1, hR0.2.2.2.2.2.2.2.2.1, (REFU_c hR0.2.2.2.2.2.2.2.2.2)⟩, rfl, rfl, rfl, ⟨rfl, rfl, rfl, rfl, .inr ⟨by omega, (by first | rfl | exact hd)⟩, fun n2 h1 _ => (sUCC_fAIL h1 (hcase.resolve_right (fun z => by omega)).2).elim⟩⟩

set_option maxHeartbeats 4000000 in
theorem op_deed_1 {c : Int} {A : Nat → List Int} {F : Nat → Int} (hR : REL c A F) (hc : c < 1000000) (hd : F 0 = 1) : R 72 (0, L0 72 [vR 1], [], LAY (shA A) (shF F), 0, 0) (fun r G => ∃ (x : Int) (A' : Nat → List Int) (F' : Nat → Int), REL (c + 1) A' F' ∧ r = some (vI x) ∧ G = LAY (shA A') (shF F') ∧ A' 0 = A 0 ∧ F' 2 = F 2 ∧ A' 84 = A 84 ∧ A' 85 = A 85 ∧ F' 3 = F 3 ∧ A' 21 = A 21 ∧ A' 22 = A 22 ∧ F' 8 = F 8 ∧ ((0 ≤ x ∧ F' 0 = F 0 + 1 ∧ sm (fun j : Nat => if rd (A' 30) j = 1 then rd (A' 31) j else 0) (F' 9).toNat ≤ 12) ∨ (x < 0 ∧ F' 0 = F 0)) ∧ ∀ n : Nat, sUCC (A 18) (F 5) n → (∀ K N Ro Ho He Fi Si Th : Nat → Int, (∀ j : Nat, j < n → eV (A 18) (F 5) j (sT (A 18) (F 5) j) (K j) (N j) (Ro j) (Ho j) (He j) (Fi j) (Si j) (Th j)) → sOUND K N Ro (F 3) n) → 0 ≤ x) := by
  have hR0 := hR
  obtain ⟨hL, hPE, hTH, hTP, hDE, hLE, hNO, hAC, hRO, hRE⟩ := hR
  have h87 : (A 87).length = 9 := hL 87 (by decide)
  have h99 : (A 99).length = 6 := hL 99 (by decide)
  have r2 := REFU_at hRE (k := 2) (by decide) (by decide) hc
  have r3 := REFU_at hRE (k := 3) (by decide) (by decide) hc
  have r4 := REFU_at hRE (k := 4) (by decide) (by decide) hc
  have r5 := REFU_at hRE (k := 5) (by decide) (by decide) hc
  have r6 := REFU_at hRE (k := 6) (by decide) (by decide) hc
  have r7 := REFU_at hRE (k := 7) (by decide) (by decide) hc
  have r8 := REFU_at hRE (k := 8) (by decide) (by decide) hc
  obtain ⟨t1, t2, t3, t4, t5, t6⟩ := hTH
  obtain ⟨p1, p2, p3, p4, p5, p6⟩ := hPE
  have hT1 := hR0.2.2.2.1
  have hDE2 := hR0.2.2.2.2.1.2
  have x0 : (A 30).length = 6 := hL 30 (by decide)
  have x1 : (A 31).length = 6 := hL 31 (by decide)
  have x2 : (A 32).length = 6 := hL 32 (by decide)
  have x3 : (A 33).length = 6 := hL 33 (by decide)
  have x4 : (A 34).length = 6 := hL 34 (by decide)
  have x5 : (A 35).length = 6 := hL 35 (by decide)
  have x6 : (A 36).length = 6 := hL 36 (by decide)
  have x7 : (A 37).length = 6 := hL 37 (by decide)
  refine R_s (P := True) (f' := (6, [some (vR 1), none], [vI 6, vI (F 0)], LAY (shA A) (shF F), 0, 0)) hc72 3 rfl trivial ?_
  refine R_ic (t := 16) hc72 rfl rfl (fun (_ : F 0 < 6) => ?_) (fun (z : ¬ (F 0 < 6)) => absurd (show F 0 < 6 by omega) z)
  refine R_s (P := True) (f' := (24, [some (vR 1), none], [vI (F 0), vR 19], LAY (shA A) (shF F), 0, 0)) hc72 4 rfl trivial ?_
  rw [hd]
  refine R_s (P := (0 ≤ (1 : Int) ∧ (1 : Int) < (([some 20, some 29, some 38, some 47, some 56, some 65] : List (Option Nat)).length : Int)) ∧ True) (f' := (42, [some (vR 1), some (vR 29)], [vR 29, vR 17], LAY (shA A) (shF F), 0, 0)) hc72 7 rfl ⟨(by decide), trivial⟩ ?_
  refine R_cv hc72 rfl rfl (l_rdeed1 (A := shA A) (F := shF F) (LENS_sh hL) hT1) (fun r G9 hp9 => ?_)
  obtain ⟨yc, y0, y1, y2, y3, y4, y5, y6, y7, ya, yv, ye, rfl, rfl, ly0, ly1, ly2, ly3, ly4, ly5, ly6, ly7, yab, hcase0⟩ := hp9
  have yab : 0 ≤ ya ∧ ya ≤ F 5 := yab
  have hcase : (yc = 0 ∧ fAIL (A 18) (F 5) ya) ∨ (yc = 1 ∧ ∃ n : Nat, ye = n ∧ sUCC (A 18) (F 5) n ∧ ∀ j : Nat, j < n → eV (A 18) (F 5) j (sT (A 18) (F 5) j) (rd y0 j) (rd y1 j) (rd y2 j) (rd y3 j) (rd y4 j) (rd y5 j) (rd y6 j) (rd y7 j)) := hcase0
  have yc1 : yc = 0 ∨ yc = 1 := by omega
  refine R_s (f' := (45, [some (vR 1), some (vR 29)], [vI yc], LAY (u (u (u (u (u (u (u (u (shA A) 30 y0) 31 y1) 32 y2) 33 y3) 34 y4) 35 y5) 36 y6) 37 y7) (u (u (u (shF F) 6 ya) 7 yv) 9 ye), 0, 0)) hc72 0 rfl trivial ?_
  refine R_if (t := 59) hc72 rfl rfl (fun (c2 : ¬ yc = 0) => ?_) (fun (c2 : ¬ (¬ yc = 0)) => ?_)
  · obtain ⟨n, hyn, hsu, hev⟩ := (hcase.resolve_left (fun z => by omega)).2
    have hn6 : 1 ≤ n ∧ n ≤ 6 := by
      obtain ⟨i0, e0, h6, -⟩ := hsu
      omega
    obtain ⟨l100, k100, kk, e100⟩ := GH100 (A 100) 1 (by decide) y0 y1 y2 y3 y4 y5 y6 y7
    have hem : ∀ j : Nat, j < n → eV (A 18) (F 5) j (sT (A 18) (F 5) j) (rd l100 (48 * 1 + 8 * j)) (rd l100 (48 * 1 + 8 * j + 1)) (rd l100 (48 * 1 + 8 * j + 2)) (rd l100 (48 * 1 + 8 * j + 3)) (rd l100 (48 * 1 + 8 * j + 4)) (rd l100 (48 * 1 + 8 * j + 5) + 1) (rd l100 (48 * 1 + 8 * j + 6)) (rd l100 (48 * 1 + 8 * j + 7)) := fun j hj => by
      have z := e100 j (by omega)
      rw [z.1, z.2.1, z.2.2.1, z.2.2.2.1, z.2.2.2.2.1, z.2.2.2.2.2.1, z.2.2.2.2.2.2.1, z.2.2.2.2.2.2.2, show rd y5 j - 1 + 1 = rd y5 j by omega]
      exact hev j hj
    refine R_s (P := True) (f' := (67, [some (vR 1), some (vR 29)], [vI (F 3), vR 29], LAY (u (u (u (u (u (u (u (u (shA A) 30 y0) 31 y1) 32 y2) 33 y3) 34 y4) 35 y5) 36 y6) 37 y7) (u (u (u (shF F) 6 ya) 7 yv) 9 ye), 0, 0)) hc72 4 rfl trivial ?_
    refine R_cv hc72 rfl rfl (l_sound1 (A := (u (u (u (u (u (u (u (u (shA A) 30 y0) 31 y1) 32 y2) 33 y3) 34 y4) 35 y5) 36 y6) 37 y7)) (F := (u (u (u (shF F) 6 ya) 7 yv) 9 ye)) (LENS_u (LENS_u (LENS_u (LENS_u (LENS_u (LENS_u (LENS_u (LENS_u (LENS_sh hL) (by show y0.length = (A 30).length; omega)) (by show y1.length = (A 31).length; omega)) (by show y2.length = (A 32).length; omega)) (by show y3.length = (A 33).length; omega)) (by show y4.length = (A 34).length; omega)) (by show y5.length = (A 35).length; omega)) (by show y6.length = (A 36).length; omega)) (by show y7.length = (A 37).length; omega)) (e := n) hn6.2 hyn (fun j hj q => ((eV_num (hev j hj)).1 (.inr (.inl q))))) (fun r G9 hp9 => ?_)
    obtain ⟨yd, rfl, rfl, hsd0⟩ := hp9
    have hsd : (yd = 1 ∧ sOUND (fun j => rd y0 j) (fun j => rd y1 j) (fun j => rd y2 j) (F 3) n) ∨ (yd = 0 ∧ ¬ sOUND (fun j => rd y0 j) (fun j => rd y1 j) (fun j => rd y2 j) (F 3) n) := hsd0
    have yd1 : yd = 0 ∨ yd = 1 := by omega
    refine R_s (f' := (70, [some (vR 1), some (vR 29)], [vI yd], LAY (u (u (u (u (u (u (u (u (shA A) 30 y0) 31 y1) 32 y2) 33 y3) 34 y4) 35 y5) 36 y6) 37 y7) (u (u (u (shF F) 6 ya) 7 yv) 9 ye), 0, 0)) hc72 0 rfl trivial ?_
    refine R_if (t := 80) hc72 rfl rfl (fun (c3 : ¬ yd = 0) => ?_) (fun (c3 : ¬ (¬ yd = 0)) => ?_)
    · refine R_s (P := inI ((F 0) + 1) ∧ inI (((F 0) + 1) - 1) ∧ True) (f' := (104, [some (vR 1), some (vR 29)], [vI (((F 0) + 1) - 1)], LAY (u (u (u (u (u (u (u (u (shA A) 30 y0) 31 y1) 32 y2) 33 y3) 34 y4) 35 y5) 36 y6) 37 y7) (u (u (u (u (u (shF F) 6 ya) 7 yv) 9 ye) 5 0) 0 ((F 0) + 1)), 0, 0)) hc72 14 rfl ⟨⟨by omega, by omega⟩, ⟨by omega, by omega⟩, trivial⟩ ?_
      refine R_reti hc72 rfl rfl ?_
      first
        | (exfalso; omega; done)
        | exact ⟨((F 0) + 1) - 1, (u (u (u (u (u (u (u (u (u (u A 30 y0) 31 y1) 32 y2) 33 y3) 34 y4) 35 y5) 36 y6) 37 y7) 99 (wr (A 99) (F 0) ye)) 100 l100), (u (u (u (u (u F 6 ya) 7 yv) 9 ye) 5 0) 0 ((F 0) + 1)), ⟨(LENS_u (LENS_u (LENS_u (LENS_u (LENS_u (LENS_u (LENS_u (LENS_u (LENS_u (LENS_u hL (by show (y0).length = (A 30).length; rw [ly0, hL 30 (by decide)]; rfl)) (by show (y1).length = (A 31).length; rw [ly1, hL 31 (by decide)]; rfl)) (by show (y2).length = (A 32).length; rw [ly2, hL 32 (by decide)]; rfl)) (by show (y3).length = (A 33).length; rw [ly3, hL 33 (by decide)]; rfl)) (by show (y4).length = (A 34).length; rw [ly4, hL 34 (by decide)]; rfl)) (by show (y5).length = (A 35).length; rw [ly5, hL 35 (by decide)]; rfl)) (by show (y6).length = (A 36).length; rw [ly6, hL 36 (by decide)]; rfl)) (by show (y7).length = (A 37).length; rw [ly7, hL 37 (by decide)]; rfl)) (by show (wr (A 99) (F 0) ye).length = (A 99).length; simp only [wr_len])) (by show (l100).length = (A 100).length; rw [k100, hL 100 (by decide)]; rfl)), hR0.2.1, hR0.2.2.1, ⟨(show (0 : Int) ≤ 0 by decide), (show (0 : Int) ≤ 120 by decide)⟩, ⟨⟨(show 0 ≤ F 0 + 1 by omega), (show F 0 + 1 ≤ 6 by omega)⟩, fun _ => DEED_keep (by decide) (hDE2.1 (by omega)) (by show rd (wr (A 99) (F 0) ye) 0 = rd (A 99) 0; exact rd_wr_n (by omega) (by decide) (by omega)) (fun q h1 h2 => kk q (by omega) (by omega)), fun _ => by
              have z := DEED_new (mE := wr (A 99) (F 0) ye) (d := 1) hsu hev hem (by rw [hd, rd_wr_s (by omega) (by rw [hL 99 (by decide)]; decide)]; exact hyn) (hsd.resolve_right (fun z => by omega)).2
              rw [← hyn] at z
              exact z, fun q => absurd (show (2 : Int) < F 0 + 1 from q) (by omega), fun q => absurd (show (3 : Int) < F 0 + 1 from q) (by omega), fun q => absurd (show (4 : Int) < F 0 + 1 from q) (by omega), fun q => absurd (show (5 : Int) < F 0 + 1 from q) (by omega)⟩, hR0.2.2.2.2.2.1, hR0.2.2.2.2.2.2.1, hR0.2.2.2.2.2.2.2.1, hR0.2.2.2.2.2.2.2.2.1, (REFU_c hR0.2.2.2.2.2.2.2.2.2)⟩, rfl, rfl, rfl, ⟨rfl, rfl, rfl, rfl, rfl, rfl, rfl, .inl ⟨by omega, (by first | rfl | exact hd | (show F 0 + 1 = _; rw [hd])), by have z := (hsd.resolve_right (fun z => by omega)).2.2; have e9 : n = (ye : Int).toNat := (by omega); rw [e9] at z; exact z⟩, fun _ _ _ => by omega⟩⟩
    · refine R_s (P := True) (f' := (76, [some (vR 1), some (vR 29)], [vI (-7), vR 1], LAY (u (u (u (u (u (u (u (u (shA A) 30 y0) 31 y1) 32 y2) 33 y3) 34 y4) 35 y5) 36 y6) 37 y7) (u (u (u (shF F) 6 ya) 7 yv) 9 ye), 0, 0)) hc72 2 rfl trivial ?_
      refine R_cv hc72 rfl rfl ?_ (fun r G h => h)
      refine R_s (P := True) (f' := (3, [some (vR 1), some (vI (-7))], [vI (-2), vI (-7)], LAY (u (u (u (u (u (u (u (u (shA A) 30 y0) 31 y1) 32 y2) 33 y3) 34 y4) 35 y5) 36 y6) 37 y7) (u (u (u (shF F) 6 ya) 7 yv) 9 ye), 0, 0)) hc93 2 rfl trivial ?_
      refine R_ic (t := 23) hc93 rfl rfl (fun (z : (-2) < (-7)) => absurd z (by decide)) (fun (_ : ¬ ((-2) < (-7))) => ?_)
      refine R_s (P := True) (f' := (9, [some (vR 1), some (vI (-7))], [vI (-8), vI (-7)], LAY (u (u (u (u (u (u (u (u (shA A) 30 y0) 31 y1) 32 y2) 33 y3) 34 y4) 35 y5) 36 y6) 37 y7) (u (u (u (shF F) 6 ya) 7 yv) 9 ye), 0, 0)) hc93 2 rfl trivial ?_
      refine R_ic (t := 23) hc93 rfl rfl (fun (z : (-7) < (-8)) => absurd z (by decide)) (fun (_ : ¬ ((-7) < (-8))) => ?_)
      refine R_s (P := inI 7 ∧ (0 ≤ 7 ∧ 7 < ((A 87).length : Int)) ∧ inI ((rd (A 87) 7) + 1) ∧ (0 ≤ 7 ∧ 7 < ((A 87).length : Int)) ∧ True) (f' := (24, [some (vR 1), some (vI (-7))], [vI (-7)], LAY (u (u (u (u (u (u (u (u (u (shA A) 30 y0) 31 y1) 32 y2) 33 y3) 34 y4) 35 y5) 36 y6) 37 y7) 87 (wr (A 87) 7 ((rd (A 87) 7) + 1))) (u (u (u (shF F) 6 ya) 7 yv) 9 ye), 0, 0)) hc93 10 rfl ⟨⟨by omega, by omega⟩, ⟨by omega, by omega⟩, ⟨by omega, by omega⟩, ⟨by omega, by omega⟩, trivial⟩ ?_
      refine R_reti hc93 rfl rfl ?_
      refine R_s (f' := (79, [some (vR 1), some (vR 29)], [vI (-7)], LAY (u (u (u (u (u (u (u (u (u (shA A) 30 y0) 31 y1) 32 y2) 33 y3) 34 y4) 35 y5) 36 y6) 37 y7) 87 (wr (A 87) 7 ((rd (A 87) 7) + 1))) (u (u (u (shF F) 6 ya) 7 yv) 9 ye), 0, 0)) hc72 0 rfl trivial ?_
      refine R_reti hc72 rfl rfl ?_
      first
        | (exfalso; omega; done)
        | exact ⟨(-7), (u (u (u (u (u (u (u (u (u A 30 y0) 31 y1) 32 y2) 33 y3) 34 y4) 35 y5) 36 y6) 37 y7) 87 (wr (A 87) 7 ((rd (A 87) 7) + 1))), (u (u (u F 6 ya) 7 yv) 9 ye), ⟨(LENS_u (LENS_u (LENS_u (LENS_u (LENS_u (LENS_u (LENS_u (LENS_u (LENS_u hL (by show (y0).length = (A 30).length; rw [ly0, hL 30 (by decide)]; rfl)) (by show (y1).length = (A 31).length; rw [ly1, hL 31 (by decide)]; rfl)) (by show (y2).length = (A 32).length; rw [ly2, hL 32 (by decide)]; rfl)) (by show (y3).length = (A 33).length; rw [ly3, hL 33 (by decide)]; rfl)) (by show (y4).length = (A 34).length; rw [ly4, hL 34 (by decide)]; rfl)) (by show (y5).length = (A 35).length; rw [ly5, hL 35 (by decide)]; rfl)) (by show (y6).length = (A 36).length; rw [ly6, hL 36 (by decide)]; rfl)) (by show (y7).length = (A 37).length; rw [ly7, hL 37 (by decide)]; rfl)) (wr_len _ _ _)), hR0.2.1, hR0.2.2.1, hR0.2.2.2.1, ⟨⟨(show 0 ≤ F 0 by omega), (show F 0 ≤ 6 by omega)⟩, fun _ => DEED_keep (by decide) (hDE2.1 (by omega)) rfl (fun q h1 h2 => rfl), fun q => absurd (show (1 : Int) < F 0 from q) (by omega), fun q => absurd (show (2 : Int) < F 0 from q) (by omega), fun q => absurd (show (3 : Int) < F 0 from q) (by omega), fun q => absurd (show (4 : Int) < F 0 from q) (by omega), fun q => absurd (show (5 : Int) < F 0 from q) (by omega)⟩, hR0.2.2.2.2.2.1, hR0.2.2.2.2.2.2.1, hR0.2.2.2.2.2.2.2.1, hR0.2.2.2.2.2.2.2.2.1, (REFU_up hR0.2.2.2.2.2.2.2.2.2 (hL 87 (by decide)) (by decide) (by decide))⟩, rfl, rfl, rfl, ⟨rfl, rfl, rfl, rfl, rfl, rfl, rfl, .inr ⟨by omega, (by first | rfl | exact hd)⟩, fun n2 h1 h2 => by have e9 := sUCC_eq h1 hsu; subst e9; exact absurd (h2 (fun j => rd y0 j) (fun j => rd y1 j) (fun j => rd y2 j) (fun j => rd y3 j) (fun j => rd y4 j) (fun j => rd y5 j) (fun j => rd y6 j) (fun j => rd y7 j) hev) (hsd.resolve_left (fun z => by omega)).2⟩⟩
  · refine R_s (P := inI ((-10) - ya) ∧ True) (f' := (58, [some (vR 1), some (vR 29)], [vI ((-10) - ya)], LAY (u (u (u (u (u (u (u (u (shA A) 30 y0) 31 y1) 32 y2) 33 y3) 34 y4) 35 y5) 36 y6) 37 y7) (u (u (u (shF F) 6 ya) 7 yv) 9 ye), 0, 0)) hc72 5 rfl ⟨⟨by omega, by omega⟩, trivial⟩ ?_
    refine R_reti hc72 rfl rfl ?_
    first
      | (exfalso; omega; done)
      | exact ⟨(-10) - ya, (u (u (u (u (u (u (u (u A 30 y0) 31 y1) 32 y2) 33 y3) 34 y4) 35 y5) 36 y6) 37 y7), (u (u (u F 6 ya) 7 yv) 9 ye), ⟨(LENS_u (LENS_u (LENS_u (LENS_u (LENS_u (LENS_u (LENS_u (LENS_u hL (by show (y0).length = (A 30).length; rw [ly0, hL 30 (by decide)]; rfl)) (by show (y1).length = (A 31).length; rw [ly1, hL 31 (by decide)]; rfl)) (by show (y2).length = (A 32).length; rw [ly2, hL 32 (by decide)]; rfl)) (by show (y3).length = (A 33).length; rw [ly3, hL 33 (by decide)]; rfl)) (by show (y4).length = (A 34).length; rw [ly4, hL 34 (by decide)]; rfl)) (by show (y5).length = (A 35).length; rw [ly5, hL 35 (by decide)]; rfl)) (by show (y6).length = (A 36).length; rw [ly6, hL 36 (by decide)]; rfl)) (by show (y7).length = (A 37).length; rw [ly7, hL 37 (by decide)]; rfl)), hR0.2.1, hR0.2.2.1, hR0.2.2.2.1, ⟨⟨(show 0 ≤ F 0 by omega), (show F 0 ≤ 6 by omega)⟩, fun _ => DEED_keep (by decide) (hDE2.1 (by omega)) rfl (fun q h1 h2 => rfl), fun q => absurd (show (1 : Int) < F 0 from q) (by omega), fun q => absurd (show (2 : Int) < F 0 from q) (by omega), fun q => absurd (show (3 : Int) < F 0 from q) (by omega), fun q => absurd (show (4 : Int) < F 0 from q) (by omega), fun q => absurd (show (5 : Int) < F 0 from q) (by omega)⟩, hR0.2.2.2.2.2.1, hR0.2.2.2.2.2.2.1, hR0.2.2.2.2.2.2.2.1, hR0.2.2.2.2.2.2.2.2.1, (REFU_c hR0.2.2.2.2.2.2.2.2.2)⟩, rfl, rfl, rfl, ⟨rfl, rfl, rfl, rfl, rfl, rfl, rfl, .inr ⟨by omega, (by first | rfl | exact hd)⟩, fun n2 h1 _ => (sUCC_fAIL h1 (hcase.resolve_right (fun z => by omega)).2).elim⟩⟩

