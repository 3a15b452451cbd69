theorem dGl_v {l : List Int} {n : Int} : ∀ (k : Nat) (v a M : Int), 0 ≤ v → v + 1 ≤ M → 0 ≤ (dGl l n k v a).1 ∧ (dGl l n k v a).1 + 1 ≤ M * 10 ^ k
  | 0, v, a, M, h0, h1 => by
    simp only [dGl]
    exact ⟨h0, by rw [Int.pow_zero]; omega⟩
  | k + 1, v, a, M, h0, h1 => by
    simp only [dGl]
    have hp : M * 10 ^ (k + 1) = M * 10 ^ k * 10 := by rw [Int.pow_succ, ← Int.mul_assoc]
    split
    · have z := dGl_v (l := l) (n := n) k (v * 10 + nx l n a - 48) (a + 1) (M * 10) (by omega) (by omega)
      have e : M * 10 * 10 ^ k = M * 10 ^ k * 10 := by rw [Int.mul_assoc, Int.mul_comm 10, ← Int.mul_assoc]
      rw [e] at z
      rw [hp]
      exact z
    · have h5 : M ≤ M * 10 ^ k := by
        have := Int.mul_le_mul_of_nonneg_left (show (1 : Int) ≤ 10 ^ k from Int.pow_pos (by decide)) (show 0 ≤ M by omega)
        omega
      exact ⟨h0, by rw [hp]; (try dsimp only); omega⟩
theorem dG_v {l : List Int} {n : Int} {s : Int × Int} (k : Nat) (hk : k ≤ 4) : 0 ≤ (dG l n k s).2 ∧ (dG l n k s).2 ≤ 9999 := by
  unfold dG
  split
  · have z := dGl_v (l := l) (n := n) k 0 s.2 1 (by decide) (by decide)
    have e : (10 : Int) ^ k ≤ 10 ^ 4 := by
      obtain e | e | e | e | e : k = 0 ∨ k = 1 ∨ k = 2 ∨ k = 3 ∨ k = 4 := by omega
      all_goals rw [e]; decide
    have e4 : (10 : Int) ^ 4 = 10000 := by decide
    (try dsimp only)
    omega
  · (try dsimp only)
    omega
theorem eV_num {l : List Int} {n : Int} {i : Nat} {s : Int × Int} {k nu ro ho he fi si th : Int} (h : eV l n i s k nu ro ho he fi si th) : (k = 0 ∨ k = 1 ∨ k = 2 → 0 ≤ nu ∧ nu ≤ 9999) ∧ (k = 1 ∨ k = 2 → 0 ≤ ro) := by
  obtain ⟨h0, h1, h2, h3, h4, h5⟩ := h
  refine ⟨fun q => ?_, fun q => ?_⟩
  · rcases q with q | q | q
    · rw [(h1 q).1]
      exact dG_v 4 (by decide)
    · rw [(h2 q).1]
      exact dG_v 4 (by decide)
    · rw [(h3 q).1]
      exact dG_v 4 (by decide)
  · rcases q with q | q
    · rw [(h2 q).2.1]
      exact (dG_v 2 (by decide)).1
    · rw [(h3 q).2]
      exact (dG_v 2 (by decide)).1
theorem DEED_keep {n e : Int} {K N Ro Ho He Fi Si Th mE mEnd mE' mEnd' : List Int} {d : Int} (hd : 0 ≤ d) (h : DEED n e K N Ro Ho He Fi Si Th mE mEnd d) (h1 : rd mE' d = rd mE d) (h2 : ∀ q : Int, 48 * d ≤ q → q < 48 * d + 48 → rd mEnd' q = rd mEnd q) : DEED n e K N Ro Ho He Fi Si Th mE' mEnd' d := by
  obtain ⟨a1, a2, a3, a4, a5⟩ := h
  refine ⟨a1, a2, by rw [h1]; exact a3, a4, fun i hi hi2 => ?_⟩
  have z := a5 i hi hi2
  rw [h2 _ (by omega) (by omega), h2 _ (by omega) (by omega), h2 _ (by omega) (by omega), h2 _ (by omega) (by omega), h2 _ (by omega) (by omega), h2 _ (by omega) (by omega), h2 _ (by omega) (by omega), h2 _ (by omega) (by omega)]
  exact z
set_option maxHeartbeats 16000000 in
theorem DEED_new {l : List Int} {n : Int} {np d : Int} {e : Nat} {K N Ro Ho He Fi Si Th mE mEnd : List Int} (hs : sUCC l n e) (hc : ∀ j : Nat, j < e → eV l n j (sT l n j) (rd K j) (rd N j) (rd Ro j) (rd Ho j) (rd He j) (rd Fi j) (rd Si j) (rd Th j))
    (hm : ∀ j : Nat, j < e → eV l n j (sT l n j) (rd mEnd (48 * d + 8 * j)) (rd mEnd (48 * d + 8 * j + 1)) (rd mEnd (48 * d + 8 * j + 2)) (rd mEnd (48 * d + 8 * j + 3)) (rd mEnd (48 * d + 8 * j + 4)) (rd mEnd (48 * d + 8 * j + 5) + 1) (rd mEnd (48 * d + 8 * j + 6)) (rd mEnd (48 * d + 8 * j + 7)))
    (hE : rd mE d = e) (hS : sOUND (fun j => rd K j) (fun j => rd N j) (fun j => rd Ro j) np e) : DEED np e K N Ro Ho He Fi Si Th mE mEnd d := by
  obtain ⟨i0, e0, h6, hg, hl, hk⟩ := hs
  have hok : ∀ j : Nat, j < e → (eN l n j (sT l n j)).1 = 0 ∧ (eK l n j (sT l n j) = 3 → j = i0) := fun j hj => by
    by_cases q : j = i0
    · rw [q, hl]
      exact ⟨rfl, fun _ => rfl⟩
    · have z := hg j (by omega)
      exact ⟨z.1, fun w => absurd w z.2.1⟩
  refine ⟨by omega, by omega, hE, ?_, fun i hi hi2 => ?_⟩
  · have z := (hc i0 (by omega)).1
    rw [show ((e : Nat) : Int) - 1 = (i0 : Int) by omega, z]
    exact hk
  · have z1 := hc i.toNat (by omega)
    have z2 := hm i.toNat (by omega)
    have z3 := hok i.toNat (by omega)
    have z4 := hS.1 i.toNat (by omega)
    have b1 := eV_num z1
    have e9 : ((i.toNat : Nat) : Int) = i := by omega
    have hsm := sm_ge (g := fun j => if rd K j = 1 then rd N j else 0) (p := i.toNat) e (by omega) (fun j hj => by
      (try dsimp only)
      split
      · rename_i q
        exact ((eV_num (hc j hj)).1 (.inr (.inl q))).1
      · exact Int.le_refl 0)
    have hS2 := hS.2
    (try dsimp only at hsm hS2 z4)
    rw [e9] at z1 z2 z4 b1 hsm
    obtain ⟨p0, p1, p2, p3, p4, p5⟩ := z1
    obtain ⟨r0, r1, r2, r3, r4, r5⟩ := z2
    have hkc := eK_c (l := l) (n := n) (i := i.toNat) (s := sT l n i.toNat)
    rw [← p0] at hkc r0 z3
    rw [r0] at r1 r2 r3 r4 r5
    unfold bAD at z4
    have htf := tF_c (l := l) (n := n) (s := tB l n i.toNat (sT l n i.toNat))
    have hro : rd K i = 1 ∨ rd K i = 2 → rd Ro i < np := fun q => Int.not_le.mp (fun w => z4 (.inl ⟨q, w⟩))
    have hnu : rd K i = 2 → rd N i ≤ 100 := fun q => Int.not_lt.mp (fun w => z4 (.inr ⟨q, w⟩))
    clear z4
    have hi3 : rd K i = 3 → i = (e : Int) - 1 := fun q => by
      have := z3.2 q
      clear p1 p2 p3 p4 p5 r1 r2 r3 r4 r5; clear hsm hS2 hro hnu
      omega
    have hi2z : rd K i = 2 → i = 0 := fun q => by
      clear p1 p2 p3 p4 p5 r1 r2 r3 r4 r5; clear hsm hS2 hro hnu hi3
      omega
    have hkk : rd K i = 0 ∨ rd K i = 1 ∨ rd K i = 2 ∨ rd K i = 3 := by
      clear p1 p2 p3 p4 p5 r1 r2 r3 r4 r5; clear hsm hS2 hro hnu hi3 hi2z
      omega
    refine ⟨r0, hkk, hi3, fun q => ⟨hi2z q, hnu q⟩, ?_, fun q => ?_, fun q => ?_, fun q => ?_, ?_, ?_⟩
    · by_cases q : rd K i = 3
      · exact .inl q
      · refine .inr ⟨?_, b1.1 (by clear p1 p2 p3 p4 p5 r1 r2 r3 r4 r5; omega)⟩
        rcases hkc with w | w | w | w
        · rw [(r1 w).1, (p1 w).1]
        · rw [(r2 w).1, (p2 w).1]
        · rw [(r3 w.1).1, (p3 w.1).1]
        · exact absurd w q
    · refine ⟨?_, b1.2 q, hro q⟩
      rcases q with w | w
      · rw [(r2 w).2.1, (p2 w).2.1]
      · rw [(r3 w).2, (p3 w).2]
    · rcases q with w | w
      · rw [(r1 w).2, (p1 w).2]
        exact ⟨rfl, hS_bd.1, hS_bd.2⟩
      · rw [(r4 w).1, (p4 w).1]
        exact ⟨rfl, hS_bd.1, hS_bd.2⟩
    · rw [(r2 q).2.2, (p2 q).2.2]
      rw [if_pos q] at hsm
      exact ⟨rfl, by split <;> first | exact .inl rfl | exact .inr rfl, Int.le_trans hsm hS2⟩
    · by_cases q : rd K i = 3
      · have w1 := (p4 q).2
        have w2 := (r4 q).2
        clear p1 p2 p3 p4 p5 r1 r2 r3 r4 r5; omega
      · have w1 := (p5 q).1
        have w2 := (r5 q).1
        clear p1 p2 p3 p4 p5 r1 r2 r3 r4 r5; omega
    · by_cases q : rd K i = 3
      · exact .inl (p4 q).2
      · have w1 := p5 q
        have w2 := r5 q
        rcases w1.2 with w | w
        · exact .inl w
        · by_cases y : rd Fi i = 0
          · exact .inl y
          · have w3 := w2.2.resolve_left (by clear p1 p2 p3 p4 p5 r1 r2 r3 r4 r5; omega)
            refine .inr ⟨by rw [w3.1, w.1], by rw [w3.2, w.2], ?_⟩
            rw [w.1]
            refine tG_c ?_ (by clear p1 p2 p3 p4 p5 r1 r2 r3 r4 r5; omega)
            have w4 := z3.1
            unfold eN at w4
            rw [if_neg (by rw [← p0]; exact q)] at w4
            exact w4

theorem op_deed_f {c : Int} {A : Nat → List Int} {F : Nat → Int} (hR : REL c A F) (hc : c < 512) (hd : F 0 = 6) : R 72 (0, L0 72 [vR 1], [], LAY (shA A) (shF F), 0, 0) (fun r G => (∃ x, r = some (vI x)) ∧ (∃ (A1 : Nat → List Int) (F1 : Nat → Int), G = LAY A1 F1 ∧ A1 0 = A 0) ∧ R 140 (0, L0 140 [vR 88], [], G, 0, 0) (fun r2 G2 => r2 = r ∧ ∃ (A' : Nat → List Int) (F' : Nat → Int), G2 = LAY (shA A') (shF F') ∧ A' 0 = A 0 ∧ REL (c + 1) A' F')) := by
  have hR0 := hR
  obtain ⟨hL, hPE, hTH, hTP, hDE, hLE, hNO, hAC, hRO, hRE⟩ := hR
  have h87 : (A 87).length = 9 := hL 87 (by decide)
  have r2 := REFU_at hRE (k := 2) (by decide) (by decide) hc
  have r3 := REFU_at hRE (k := 3) (by decide) (by decide) hc
  have r4 := REFU_at hRE (k := 4) (by decide) (by decide) hc
  have r5 := REFU_at hRE (k := 5) (by decide) (by decide) hc
  have r6 := REFU_at hRE (k := 6) (by decide) (by decide) hc
  have r7 := REFU_at hRE (k := 7) (by decide) (by decide) hc
  have r8 := REFU_at hRE (k := 8) (by decide) (by decide) hc
  obtain ⟨t1, t2, t3, t4, t5, t6⟩ := hTH
  obtain ⟨p1, p2, p3, p4, p5, p6⟩ := hPE
  refine R_s (P := True) (f' := (6, [some (vR 1), none], [vI 6, vI (F 0)], LAY (shA A) (shF F), 0, 0)) hc72 3 rfl trivial ?_
  refine R_ic (t := 16) hc72 rfl rfl (fun (z : F 0 < 6) => absurd z (by omega)) (fun (_ : ¬ (F 0 < 6)) => ?_)
  refine R_s (P := True) (f' := (12, [some (vR 1), none], [vI (-8), vR 1], LAY (shA A) (shF F), 0, 0)) hc72 2 rfl trivial ?_
  refine R_cv hc72 rfl rfl ?_ (fun r G h => h)
  refine R_s (P := True) (f' := (3, [some (vR 1), some (vI (-8))], [vI (-2), vI (-8)], LAY (shA A) (shF F), 0, 0)) hc93 2 rfl trivial ?_
  refine R_ic (t := 23) hc93 rfl rfl (fun (z : (-2) < (-8)) => absurd z (by decide)) (fun (_ : ¬ ((-2) < (-8))) => ?_)
  refine R_s (P := True) (f' := (9, [some (vR 1), some (vI (-8))], [vI (-8), vI (-8)], LAY (shA A) (shF F), 0, 0)) hc93 2 rfl trivial ?_
  refine R_ic (t := 23) hc93 rfl rfl (fun (z : (-8) < (-8)) => absurd z (by decide)) (fun (_ : ¬ ((-8) < (-8))) => ?_)
  refine R_s (P := inI 8 ∧ (0 ≤ 8 ∧ 8 < ((A 87).length : Int)) ∧ inI ((rd (A 87) 8) + 1) ∧ (0 ≤ 8 ∧ 8 < ((A 87).length : Int)) ∧ True) (f' := (24, [some (vR 1), some (vI (-8))], [vI (-8)], LAY (u (shA A) 87 (wr (A 87) 8 ((rd (A 87) 8) + 1))) (shF F), 0, 0)) hc93 10 rfl ⟨⟨by omega, by omega⟩, ⟨by omega, by omega⟩, ⟨by omega, by omega⟩, ⟨by omega, by omega⟩, trivial⟩ ?_
  refine R_reti hc93 rfl rfl ?_
  refine R_s (f' := (15, [some (vR 1), none], [vI (-8)], LAY (u (shA A) 87 (wr (A 87) 8 ((rd (A 87) 8) + 1))) (shF F), 0, 0)) hc72 0 rfl trivial ?_
  refine R_reti hc72 rfl rfl ⟨⟨_, rfl⟩, ⟨_, _, rfl, rfl⟩, ?_⟩
  refine R_s (P := True) (f' := (6, [some (vR 88), none], [vI 6, vI (F 0)], LAY (u (shA A) 87 (wr (A 87) 8 ((rd (A 87) 8) + 1))) (shF F), 0, 0)) hc140 3 rfl trivial ?_
  refine R_ic (t := 16) hc140 rfl rfl (fun (z : ¬ F 0 = 6) => absurd z (by omega)) (fun (_ : ¬ (¬ F 0 = 6)) => ?_)
  refine R_s (P := True) (f' := (12, [some (vR 88), none], [vI (-8), vR 88], LAY (u (shA A) 87 (wr (A 87) 8 ((rd (A 87) 8) + 1))) (shF F), 0, 0)) hc140 2 rfl trivial ?_
  refine R_cv hc140 rfl rfl ?_ (fun r G h => h)
  refine R_s (P := inI 8 ∧ (0 ≤ 8 ∧ 8 < ((A 87).length : Int)) ∧ inI ((rd (A 87) 8) + 1) ∧ (0 ≤ 8 ∧ 8 < ((A 87).length : Int)) ∧ True) (f' := (12, [some (vR 88), some (vI (-8))], [vI (-8)], LAY (u (u (shA A) 87 (wr (A 87) 8 ((rd (A 87) 8) + 1))) 89 (wr (A 87) 8 ((rd (A 87) 8) + 1))) (shF F), 0, 0)) hc105 10 rfl ⟨⟨by omega, by omega⟩, ⟨by omega, by omega⟩, ⟨by omega, by omega⟩, ⟨by omega, by omega⟩, trivial⟩ ?_
  refine R_reti hc105 rfl rfl ?_
  refine R_s (f' := (15, [some (vR 88), none], [vI (-8)], LAY (u (u (shA A) 87 (wr (A 87) 8 ((rd (A 87) 8) + 1))) 89 (wr (A 87) 8 ((rd (A 87) 8) + 1))) (shF F), 0, 0)) hc140 0 rfl trivial ?_
  refine R_reti hc140 rfl rfl ?_
  first
    | (exfalso; omega; done)
    | exact ⟨rfl, (u A 87 (wr (A 87) 8 ((rd (A 87) 8) + 1))), F, rfl, rfl, REL_ref hR0 (by decide) (by decide)⟩

theorem op_deed_0 {c : Int} {A : Nat → List Int} {F : Nat → Int} (hR : REL c A F) (hc : c < 512) (hd : F 0 = 0) : R 72 (0, L0 72 [vR 1], [], LAY (shA A) (shF F), 0, 0) (fun r G => (∃ x, r = some (vI x)) ∧ (∃ (A1 : Nat → List Int) (F1 : Nat → Int), G = LAY A1 F1 ∧ A1 0 = A 0) ∧ R 140 (0, L0 140 [vR 88], [], G, 0, 0) (fun r2 G2 => r2 = r ∧ ∃ (A' : Nat → List Int) (F' : Nat → Int), G2 = LAY (shA A') (shF F') ∧ A' 0 = A 0 ∧ REL (c + 1) A' F')) := by
  have hR0 := hR
  obtain ⟨hL, hPE, hTH, hTP, hDE, hLE, hNO, hAC, hRO, hRE⟩ := hR
  have h87 : (A 87).length = 9 := hL 87 (by decide)
  have h99 : (A 99).length = 6 := hL 99 (by decide)
  have r2 := REFU_at hRE (k := 2) (by decide) (by decide) hc
  have r3 := REFU_at hRE (k := 3) (by decide) (by decide) hc
  have r4 := REFU_at hRE (k := 4) (by decide) (by decide) hc
  have r5 := REFU_at hRE (k := 5) (by decide) (by decide) hc
  have r6 := REFU_at hRE (k := 6) (by decide) (by decide) hc
  have r7 := REFU_at hRE (k := 7) (by decide) (by decide) hc
  have r8 := REFU_at hRE (k := 8) (by decide) (by decide) hc
  obtain ⟨t1, t2, t3, t4, t5, t6⟩ := hTH
  obtain ⟨p1, p2, p3, p4, p5, p6⟩ := hPE
  have hT1 := hR0.2.2.2.1
  have hDE2 := hR0.2.2.2.2.1.2
  have x0 : (A 21).length = 6 := hL 21 (by decide)
  have x1 : (A 22).length = 6 := hL 22 (by decide)
  have x2 : (A 23).length = 6 := hL 23 (by decide)
  have x3 : (A 24).length = 6 := hL 24 (by decide)
  have x4 : (A 25).length = 6 := hL 25 (by decide)
  have x5 : (A 26).length = 6 := hL 26 (by decide)
  have x6 : (A 27).length = 6 := hL 27 (by decide)
  have x7 : (A 28).length = 6 := hL 28 (by decide)
  refine R_s (P := True) (f' := (6, [some (vR 1), none], [vI 6, vI (F 0)], LAY (shA A) (shF F), 0, 0)) hc72 3 rfl trivial ?_
  refine R_ic (t := 16) hc72 rfl rfl (fun (_ : F 0 < 6) => ?_) (fun (z : ¬ (F 0 < 6)) => absurd (show F 0 < 6 by omega) z)
  refine R_s (P := True) (f' := (24, [some (vR 1), none], [vI (F 0), vR 19], LAY (shA A) (shF F), 0, 0)) hc72 4 rfl trivial ?_
  rw [hd]
  refine R_s (P := (0 ≤ (0 : Int) ∧ (0 : Int) < (([some 20, some 29, some 38, some 47, some 56, some 65] : List (Option Nat)).length : Int)) ∧ True) (f' := (42, [some (vR 1), some (vR 20)], [vR 20, vR 17], LAY (shA A) (shF F), 0, 0)) hc72 7 rfl ⟨(by decide), trivial⟩ ?_
  refine R_cv hc72 rfl rfl (l_rdeed0 (A := shA A) (F := shF F) (LENS_sh hL) hT1) (fun r G9 hp9 => ?_)
  obtain ⟨yc, y0, y1, y2, y3, y4, y5, y6, y7, ya, yv, ye, rfl, rfl, ly0, ly1, ly2, ly3, ly4, ly5, ly6, ly7, yab, hcase0⟩ := hp9
  have yab : 0 ≤ ya ∧ ya ≤ F 5 := yab
  have hcase : (yc = 0 ∧ fAIL (A 18) (F 5) ya) ∨ (yc = 1 ∧ ∃ n : Nat, ye = n ∧ sUCC (A 18) (F 5) n ∧ ∀ j : Nat, j < n → eV (A 18) (F 5) j (sT (A 18) (F 5) j) (rd y0 j) (rd y1 j) (rd y2 j) (rd y3 j) (rd y4 j) (rd y5 j) (rd y6 j) (rd y7 j)) := hcase0
  have yc1 : yc = 0 ∨ yc = 1 := by omega
  refine R_s (f' := (45, [some (vR 1), some (vR 20)], [vI yc], LAY (u (u (u (u (u (u (u (u (shA A) 21 y0) 22 y1) 23 y2) 24 y3) 25 y4) 26 y5) 27 y6) 28 y7) (u (u (u (shF F) 6 ya) 7 yv) 8 ye), 0, 0)) hc72 0 rfl trivial ?_
  refine R_if (t := 59) hc72 rfl rfl (fun (c2 : ¬ yc = 0) => ?_) (fun (c2 : ¬ (¬ yc = 0)) => ?_)
  · obtain ⟨n, hyn, hsu, hev⟩ := (hcase.resolve_left (fun z => by omega)).2
    have hn6 : 1 ≤ n ∧ n ≤ 6 := by
      obtain ⟨i0, e0, h6, -⟩ := hsu
      omega
    refine R_s (P := True) (f' := (67, [some (vR 1), some (vR 20)], [vI (F 3), vR 20], LAY (u (u (u (u (u (u (u (u (shA A) 21 y0) 22 y1) 23 y2) 24 y3) 25 y4) 26 y5) 27 y6) 28 y7) (u (u (u (shF F) 6 ya) 7 yv) 8 ye), 0, 0)) hc72 4 rfl trivial ?_
    refine R_cv hc72 rfl rfl (l_sound0 (A := (u (u (u (u (u (u (u (u (shA A) 21 y0) 22 y1) 23 y2) 24 y3) 25 y4) 26 y5) 27 y6) 28 y7)) (F := (u (u (u (shF F) 6 ya) 7 yv) 8 ye)) (LENS_u (LENS_u (LENS_u (LENS_u (LENS_u (LENS_u (LENS_u (LENS_u (LENS_sh hL) (by show y0.length = (A 21).length; omega)) (by show y1.length = (A 22).length; omega)) (by show y2.length = (A 23).length; omega)) (by show y3.length = (A 24).length; omega)) (by show y4.length = (A 25).length; omega)) (by show y5.length = (A 26).length; omega)) (by show y6.length = (A 27).length; omega)) (by show y7.length = (A 28).length; omega)) (e := n) hn6.2 hyn (fun j hj q => ((eV_num (hev j hj)).1 (.inr (.inl q))))) (fun r G9 hp9 => ?_)
    obtain ⟨yd, rfl, rfl, hsd0⟩ := hp9
    have hsd : (yd = 1 ∧ sOUND (fun j => rd y0 j) (fun j => rd y1 j) (fun j => rd y2 j) (F 3) n) ∨ (yd = 0 ∧ ¬ sOUND (fun j => rd y0 j) (fun j => rd y1 j) (fun j => rd y2 j) (F 3) n) := hsd0
    have yd1 : yd = 0 ∨ yd = 1 := by omega
    refine R_s (f' := (70, [some (vR 1), some (vR 20)], [vI yd], LAY (u (u (u (u (u (u (u (u (shA A) 21 y0) 22 y1) 23 y2) 24 y3) 25 y4) 26 y5) 27 y6) 28 y7) (u (u (u (shF F) 6 ya) 7 yv) 8 ye), 0, 0)) hc72 0 rfl trivial ?_
    refine R_if (t := 80) hc72 rfl rfl (fun (c3 : ¬ yd = 0) => ?_) (fun (c3 : ¬ (¬ yd = 0)) => ?_)
    · refine R_s (P := inI ((F 0) + 1) ∧ inI (((F 0) + 1) - 1) ∧ True) (f' := (104, [some (vR 1), some (vR 20)], [vI (((F 0) + 1) - 1)], LAY (u (u (u (u (u (u (u (u (shA A) 21 y0) 22 y1) 23 y2) 24 y3) 25 y4) 26 y5) 27 y6) 28 y7) (u (u (u (u (u (shF F) 6 ya) 7 yv) 8 ye) 5 0) 0 ((F 0) + 1)), 0, 0)) hc72 14 rfl ⟨⟨by omega, by omega⟩, ⟨by omega, by omega⟩, trivial⟩ ?_
      refine R_reti hc72 rfl rfl ⟨⟨_, rfl⟩, ⟨_, _, rfl, rfl⟩, ?_⟩
      refine R_s (P := True) (f' := (6, [some (vR 88), none], [vI 6, vI (F 0)], LAY (u (u (u (u (u (u (u (u (shA A) 21 y0) 22 y1) 23 y2) 24 y3) 25 y4) 26 y5) 27 y6) 28 y7) (u (u (u (u (u (shF F) 6 ya) 7 yv) 8 ye) 5 0) 0 ((F 0) + 1)), 0, 0)) hc140 3 rfl trivial ?_
      refine R_ic (t := 16) hc140 rfl rfl (fun (_ : ¬ F 0 = 6) => ?_) (fun (z : ¬ (¬ F 0 = 6)) => absurd (show ¬ F 0 = 6 by omega) z)
      refine R_s (P := True) (f' := (17, [some (vR 88), none], [vR 88], LAY (u (u (u (u (u (u (u (u (shA A) 21 y0) 22 y1) 23 y2) 24 y3) 25 y4) 26 y5) 27 y6) 28 y7) (u (u (u (u (u (shF F) 6 ya) 7 yv) 8 ye) 5 0) 0 ((F 0) + 1)), 0, 0)) hc140 1 rfl trivial ?_
      refine R_cv hc140 rfl rfl (l_reads (A := (u (u (u (u (u (u (u (u (shA A) 21 y0) 22 y1) 23 y2) 24 y3) 25 y4) 26 y5) 27 y6) 28 y7)) (F := (u (u (u (u (u (shF F) 6 ya) 7 yv) 8 ye) 5 0) 0 ((F 0) + 1))) hT1 (hL 18 (by decide)) (hL 100 (by decide)) ⟨(show 0 ≤ F 0 by omega), (show F 0 ≤ 5 by omega)⟩) (fun r G9 hp9 => ?_)
      obtain ⟨l100, zf, za, ze, zv, rfl, rfl, k100, kk0, zab, hm0⟩ := hp9
      have zab : 0 ≤ za ∧ za ≤ F 5 := zab
      have kk : ∀ q : Int, 0 ≤ q → q < 48 * F 0 → rd l100 q = rd (A 100) q := kk0
      have hm : (zf = 1 ∧ fAIL (A 18) (F 5) za) ∨ (zf = 0 ∧ ∃ n : Nat, ze = n ∧ sUCC (A 18) (F 5) n ∧ ∀ j : Nat, j < n → eV (A 18) (F 5) j (sT (A 18) (F 5) j) (rd l100 (48 * F 0 + 8 * j)) (rd l100 (48 * F 0 + 8 * j + 1)) (rd l100 (48 * F 0 + 8 * j + 2)) (rd l100 (48 * F 0 + 8 * j + 3)) (rd l100 (48 * F 0 + 8 * j + 4)) (rd l100 (48 * F 0 + 8 * j + 5) + 1) (rd l100 (48 * F 0 + 8 * j + 6)) (rd l100 (48 * F 0 + 8 * j + 7))) := hm0
      have hx1 : yc = 0 → zf = 1 ∧ za = ya := fun q => by
        have h1 := (hcase.resolve_right (fun z => by omega)).2
        rcases hm with h2 | h2
        · exact ⟨h2.1, fAIL_eq h2.2 h1⟩
        · obtain ⟨n2, -, h3, -⟩ := h2.2
          exact absurd (sUCC_fAIL h3 h1) id
      have hx2 : yc = 1 → zf = 0 := fun q => by
        obtain ⟨n2, -, h3, -⟩ := (hcase.resolve_left (fun z => by omega)).2
        rcases hm with h2 | h2
        · exact absurd (sUCC_fAIL h3 h2.2) id
        · exact h2.1
      refine R_s (f' := (20, [some (vR 88), none], [vI ze], LAY (u (u (u (u (u (u (u (u (u (shA A) 21 y0) 22 y1) 23 y2) 24 y3) 25 y4) 26 y5) 27 y6) 28 y7) 100 l100) (u (u (u (u (u (u (u (u (shF F) 6 ya) 7 yv) 8 ye) 5 0) 0 ((F 0) + 1)) 26 zf) 25 za) 27 zv), 0, 0)) hc140 0 rfl trivial ?_
      refine R_s (P := True) (f' := (25, [some (vR 88), some (vI ze)], [vI zf], LAY (u (u (u (u (u (u (u (u (u (shA A) 21 y0) 22 y1) 23 y2) 24 y3) 25 y4) 26 y5) 27 y6) 28 y7) 100 l100) (u (u (u (u (u (u (u (u (shF F) 6 ya) 7 yv) 8 ye) 5 0) 0 ((F 0) + 1)) 26 zf) 25 za) 27 zv), 0, 0)) hc140 3 rfl trivial ?_
      refine R_if (t := 36) hc140 rfl rfl (fun (c105 : zf = 0) => ?_) (fun (c105 : ¬ (zf = 0)) => ?_)
      · obtain ⟨n2, hzn, hsu2, hem⟩ := (hm.resolve_left (fun z => by omega)).2
        have en : n2 = n := sUCC_eq hsu2 hsu
        rw [en] at hzn hem
        refine R_s (P := True) (f' := (38, [some (vR 88), some (vI ze)], [vI ze, vR 88], LAY (u (u (u (u (u (u (u (u (u (shA A) 21 y0) 22 y1) 23 y2) 24 y3) 25 y4) 26 y5) 27 y6) 28 y7) 100 l100) (u (u (u (u (u (u (u (u (shF F) 6 ya) 7 yv) 8 ye) 5 0) 0 ((F 0) + 1)) 26 zf) 25 za) 27 zv), 0, 0)) hc140 2 rfl trivial ?_
        refine R_cv hc140 rfl rfl (l_good (A := (u (u (u (u (u (u (u (u (u (shA A) 21 y0) 22 y1) 23 y2) 24 y3) 25 y4) 26 y5) 27 y6) 28 y7) 100 l100)) (F := (u (u (u (u (u (u (u (u (shF F) 6 ya) 7 yv) 8 ye) 5 0) 0 ((F 0) + 1)) 26 zf) 25 za) 27 zv)) (by show l100.length = 288; exact k100) ⟨(show 0 ≤ F 0 by omega), (show F 0 ≤ 5 by omega)⟩ ⟨p1, p2⟩ (n := n) hzn hn6.2 (fun j hj => ⟨fun q => (eV_num (hem j hj)).1 (.inr (.inl q)), (eV_num (hem j hj)).2⟩)) (fun r G9 hp9 => ?_)
        obtain ⟨zd, rfl, rfl, hgd0⟩ := hp9
        have hgd : (zd = 1 ∧ sOUND (fun j => rd l100 (48 * F 0 + 8 * j)) (fun j => rd l100 (48 * F 0 + 8 * j + 1)) (fun j => rd l100 (48 * F 0 + 8 * j + 2)) (F 3) n) ∨ (zd = 0 ∧ ¬ sOUND (fun j => rd l100 (48 * F 0 + 8 * j)) (fun j => rd l100 (48 * F 0 + 8 * j + 1)) (fun j => rd l100 (48 * F 0 + 8 * j + 2)) (F 3) n) := hgd0
        have hso : sOUND (fun j => rd y0 j) (fun j => rd y1 j) (fun j => rd y2 j) (F 3) n ↔ sOUND (fun j => rd l100 (48 * F 0 + 8 * j)) (fun j => rd l100 (48 * F 0 + 8 * j + 1)) (fun j => rd l100 (48 * F 0 + 8 * j + 2)) (F 3) n := sOUND_eq (fun j hj => by
          have z1 := hev j hj
          have z2 := hem j hj
          (try dsimp only)
          refine ⟨by rw [z1.1, z2.1], fun q => ?_⟩
          rcases q with q | q
          · have w : eK (A 18) (F 5) j (sT (A 18) (F 5) j) = 1 := z1.1.symm.trans q
            have w2 : rd l100 (48 * F 0 + 8 * j) = 1 := by rw [z2.1]; exact w
            exact ⟨by rw [(z1.2.2.1 q).1, (z2.2.2.1 w2).1], by rw [(z1.2.2.1 q).2.1, (z2.2.2.1 w2).2.1]⟩
          · have w : eK (A 18) (F 5) j (sT (A 18) (F 5) j) = 2 := z1.1.symm.trans q
            have w2 : rd l100 (48 * F 0 + 8 * j) = 2 := by rw [z2.1]; exact w
            exact ⟨by rw [(z1.2.2.2.1 q).1, (z2.2.2.2.1 w2).1], by rw [(z1.2.2.2.1 q).2, (z2.2.2.2.1 w2).2]⟩)
        have hx3 : zd = yd := by
          rcases hsd with h1 | h1 <;> rcases hgd with h2 | h2
          · omega
          · exact absurd (hso.mp h1.2) h2.2
          · exact absurd (hso.mpr h2.2) h1.2
          · omega
        refine R_s (f' := (41, [some (vR 88), some (vI ze)], [vI zd], LAY (u (u (u (u (u (u (u (u (u (shA A) 21 y0) 22 y1) 23 y2) 24 y3) 25 y4) 26 y5) 27 y6) 28 y7) 100 l100) (u (u (u (u (u (u (u (u (shF F) 6 ya) 7 yv) 8 ye) 5 0) 0 ((F 0) + 1)) 26 zf) 25 za) 27 zv), 0, 0)) hc140 0 rfl trivial ?_
        refine R_if (t := 51) hc140 rfl rfl (fun (c106 : ¬ zd = 0) => ?_) (fun (c106 : ¬ (¬ zd = 0)) => ?_)
        · refine R_s (P := (0 ≤ F 0 ∧ F 0 < ((A 99).length : Int)) ∧ inI ((F 0) + 1) ∧ inI (((F 0) + 1) - 1) ∧ True) (f' := (82, [some (vR 88), some (vI ze)], [vI (((F 0) + 1) - 1)], LAY (u (u (u (u (u (u (u (u (u (u (shA A) 21 y0) 22 y1) 23 y2) 24 y3) 25 y4) 26 y5) 27 y6) 28 y7) 100 l100) 99 (wr (A 99) (F 0) ze)) (u (u (u (u (u (u (u (u (u (u (shF F) 6 ya) 7 yv) 8 ye) 5 0) 0 ((F 0) + 1)) 26 zf) 25 za) 27 zv) 24 0) 21 ((F 0) + 1)), 0, 0)) hc140 19 rfl ⟨⟨by omega, by omega⟩, ⟨by omega, by omega⟩, ⟨by omega, by omega⟩, trivial⟩ ?_
          refine R_reti hc140 rfl rfl ?_
          first
            | (exfalso; omega; done)
            | exact ⟨rfl, (u (u (u (u (u (u (u (u (u (u A 21 y0) 22 y1) 23 y2) 24 y3) 25 y4) 26 y5) 27 y6) 28 y7) 100 l100) 99 (wr (A 99) (F 0) ze)), (u (u (u (u (u (u (u (u F 6 ya) 7 yv) 8 ye) 5 0) 0 ((F 0) + 1)) 26 zf) 25 za) 27 zv), rfl, rfl, ⟨(LENS_u (LENS_u (LENS_u (LENS_u (LENS_u (LENS_u (LENS_u (LENS_u (LENS_u (LENS_u hL (by show (y0).length = (A 21).length; rw [ly0, hL 21 (by decide)]; rfl)) (by show (y1).length = (A 22).length; rw [ly1, hL 22 (by decide)]; rfl)) (by show (y2).length = (A 23).length; rw [ly2, hL 23 (by decide)]; rfl)) (by show (y3).length = (A 24).length; rw [ly3, hL 24 (by decide)]; rfl)) (by show (y4).length = (A 25).length; rw [ly4, hL 25 (by decide)]; rfl)) (by show (y5).length = (A 26).length; rw [ly5, hL 26 (by decide)]; rfl)) (by show (y6).length = (A 27).length; rw [ly6, hL 27 (by decide)]; rfl)) (by show (y7).length = (A 28).length; rw [ly7, hL 28 (by decide)]; rfl)) (by show (l100).length = (A 100).length; rw [k100, hL 100 (by decide)]; rfl)) (by show (wr (A 99) (F 0) ze).length = (A 99).length; simp only [wr_len])), hR0.2.1, hR0.2.2.1, ⟨(show (0 : Int) ≤ 0 by decide), (show (0 : Int) ≤ 120 by decide)⟩, ⟨⟨(show 0 ≤ F 0 + 1 by omega), (show F 0 + 1 ≤ 6 by omega)⟩, fun _ => by
                  have z := DEED_new (mE := wr (A 99) (F 0) ze) (d := 0) hsu hev (by rw [hd] at hem; exact hem) (by rw [hd, rd_wr_s (by omega) (by rw [hL 99 (by decide)]; decide)]; exact hzn) (hsd.resolve_right (fun z => by omega)).2
                  rw [← hyn] at z
                  exact z, fun q => absurd (show (1 : Int) < F 0 + 1 from q) (by omega), fun q => absurd (show (2 : Int) < F 0 + 1 from q) (by omega), fun q => absurd (show (3 : Int) < F 0 + 1 from q) (by omega), fun q => absurd (show (4 : Int) < F 0 + 1 from q) (by omega), fun q => absurd (show (5 : Int) < F 0 + 1 from q) (by omega)⟩, hR0.2.2.2.2.2.1, hR0.2.2.2.2.2.2.1, hR0.2.2.2.2.2.2.2.1, hR0.2.2.2.2.2.2.2.2.1, (REFU_c hR0.2.2.2.2.2.2.2.2.2)⟩⟩
        · exact absurd (show ¬ zd = 0 by rw [hx3]; assumption) (by assumption)
      · exfalso
        omega
    · refine R_s (P := True) (f' := (76, [some (vR 1), some (vR 20)], [vI (-7), vR 1], LAY (u (u (u (u (u (u (u (u (shA A) 21 y0) 22 y1) 23 y2) 24 y3) 25 y4) 26 y5) 27 y6) 28 y7) (u (u (u (shF F) 6 ya) 7 yv) 8 ye), 0, 0)) hc72 2 rfl trivial ?_
      refine R_cv hc72 rfl rfl ?_ (fun r G h => h)
      refine R_s (P := True) (f' := (3, [some (vR 1), some (vI (-7))], [vI (-2), vI (-7)], LAY (u (u (u (u (u (u (u (u (shA A) 21 y0) 22 y1) 23 y2) 24 y3) 25 y4) 26 y5) 27 y6) 28 y7) (u (u (u (shF F) 6 ya) 7 yv) 8 ye), 0, 0)) hc93 2 rfl trivial ?_
      refine R_ic (t := 23) hc93 rfl rfl (fun (z : (-2) < (-7)) => absurd z (by decide)) (fun (_ : ¬ ((-2) < (-7))) => ?_)
      refine R_s (P := True) (f' := (9, [some (vR 1), some (vI (-7))], [vI (-8), vI (-7)], LAY (u (u (u (u (u (u (u (u (shA A) 21 y0) 22 y1) 23 y2) 24 y3) 25 y4) 26 y5) 27 y6) 28 y7) (u (u (u (shF F) 6 ya) 7 yv) 8 ye), 0, 0)) hc93 2 rfl trivial ?_
      refine R_ic (t := 23) hc93 rfl rfl (fun (z : (-7) < (-8)) => absurd z (by decide)) (fun (_ : ¬ ((-7) < (-8))) => ?_)
      refine R_s (P := inI 7 ∧ (0 ≤ 7 ∧ 7 < ((A 87).length : Int)) ∧ inI ((rd (A 87) 7) + 1) ∧ (0 ≤ 7 ∧ 7 < ((A 87).length : Int)) ∧ True) (f' := (24, [some (vR 1), some (vI (-7))], [vI (-7)], LAY (u (u (u (u (u (u (u (u (u (shA A) 21 y0) 22 y1) 23 y2) 24 y3) 25 y4) 26 y5) 27 y6) 28 y7) 87 (wr (A 87) 7 ((rd (A 87) 7) + 1))) (u (u (u (shF F) 6 ya) 7 yv) 8 ye), 0, 0)) hc93 10 rfl ⟨⟨by omega, by omega⟩, ⟨by omega, by omega⟩, ⟨by omega, by omega⟩, ⟨by omega, by omega⟩, trivial⟩ ?_
      refine R_reti hc93 rfl rfl ?_
      refine R_s (f' := (79, [some (vR 1), some (vR 20)], [vI (-7)], LAY (u (u (u (u (u (u (u (u (u (shA A) 21 y0) 22 y1) 23 y2) 24 y3) 25 y4) 26 y5) 27 y6) 28 y7) 87 (wr (A 87) 7 ((rd (A 87) 7) + 1))) (u (u (u (shF F) 6 ya) 7 yv) 8 ye), 0, 0)) hc72 0 rfl trivial ?_
      refine R_reti hc72 rfl rfl ⟨⟨_, rfl⟩, ⟨_, _, rfl, rfl⟩, ?_⟩
      refine R_s (P := True) (f' := (6, [some (vR 88), none], [vI 6, vI (F 0)], LAY (u (u (u (u (u (u (u (u (u (shA A) 21 y0) 22 y1) 23 y2) 24 y3) 25 y4) 26 y5) 27 y6) 28 y7) 87 (wr (A 87) 7 ((rd (A 87) 7) + 1))) (u (u (u (shF F) 6 ya) 7 yv) 8 ye), 0, 0)) hc140 3 rfl trivial ?_
      refine R_ic (t := 16) hc140 rfl rfl (fun (_ : ¬ F 0 = 6) => ?_) (fun (z : ¬ (¬ F 0 = 6)) => absurd (show ¬ F 0 = 6 by omega) z)
      refine R_s (P := True) (f' := (17, [some (vR 88), none], [vR 88], LAY (u (u (u (u (u (u (u (u (u (shA A) 21 y0) 22 y1) 23 y2) 24 y3) 25 y4) 26 y5) 27 y6) 28 y7) 87 (wr (A 87) 7 ((rd (A 87) 7) + 1))) (u (u (u (shF F) 6 ya) 7 yv) 8 ye), 0, 0)) hc140 1 rfl trivial ?_
      refine R_cv hc140 rfl rfl (l_reads (A := (u (u (u (u (u (u (u (u (u (shA A) 21 y0) 22 y1) 23 y2) 24 y3) 25 y4) 26 y5) 27 y6) 28 y7) 87 (wr (A 87) 7 ((rd (A 87) 7) + 1)))) (F := (u (u (u (shF F) 6 ya) 7 yv) 8 ye)) hT1 (hL 18 (by decide)) (hL 100 (by decide)) ⟨(show 0 ≤ F 0 by omega), (show F 0 ≤ 5 by omega)⟩) (fun r G9 hp9 => ?_)
      obtain ⟨l100, zf, za, ze, zv, rfl, rfl, k100, kk0, zab, hm0⟩ := hp9
      have zab : 0 ≤ za ∧ za ≤ F 5 := zab
      have kk : ∀ q : Int, 0 ≤ q → q < 48 * F 0 → rd l100 q = rd (A 100) q := kk0
      have hm : (zf = 1 ∧ fAIL (A 18) (F 5) za) ∨ (zf = 0 ∧ ∃ n : Nat, ze = n ∧ sUCC (A 18) (F 5) n ∧ ∀ j : Nat, j < n → eV (A 18) (F 5) j (sT (A 18) (F 5) j) (rd l100 (48 * F 0 + 8 * j)) (rd l100 (48 * F 0 + 8 * j + 1)) (rd l100 (48 * F 0 + 8 * j + 2)) (rd l100 (48 * F 0 + 8 * j + 3)) (rd l100 (48 * F 0 + 8 * j + 4)) (rd l100 (48 * F 0 + 8 * j + 5) + 1) (rd l100 (48 * F 0 + 8 * j + 6)) (rd l100 (48 * F 0 + 8 * j + 7))) := hm0
      have hx1 : yc = 0 → zf = 1 ∧ za = ya := fun q => by
        have h1 := (hcase.resolve_right (fun z => by omega)).2
        rcases hm with h2 | h2
        · exact ⟨h2.1, fAIL_eq h2.2 h1⟩
        · obtain ⟨n2, -, h3, -⟩ := h2.2
          exact absurd (sUCC_fAIL h3 h1) id
      have hx2 : yc = 1 → zf = 0 := fun q => by
        obtain ⟨n2, -, h3, -⟩ := (hcase.resolve_left (fun z => by omega)).2
        rcases hm with h2 | h2
        · exact absurd (sUCC_fAIL h3 h2.2) id
        · exact h2.1
      refine R_s (f' := (20, [some (vR 88), none], [vI ze], LAY (u (u (u (u (u (u (u (u (u (u (shA A) 21 y0) 22 y1) 23 y2) 24 y3) 25 y4) 26 y5) 27 y6) 28 y7) 87 (wr (A 87) 7 ((rd (A 87) 7) + 1))) 100 l100) (u (u (u (u (u (u (shF F) 6 ya) 7 yv) 8 ye) 26 zf) 25 za) 27 zv), 0, 0)) hc140 0 rfl trivial ?_
      refine R_s (P := True) (f' := (25, [some (vR 88), some (vI ze)], [vI zf], LAY (u (u (u (u (u (u (u (u (u (u (shA A) 21 y0) 22 y1) 23 y2) 24 y3) 25 y4) 26 y5) 27 y6) 28 y7) 87 (wr (A 87) 7 ((rd (A 87) 7) + 1))) 100 l100) (u (u (u (u (u (u (shF F) 6 ya) 7 yv) 8 ye) 26 zf) 25 za) 27 zv), 0, 0)) hc140 3 rfl trivial ?_
      refine R_if (t := 36) hc140 rfl rfl (fun (c107 : zf = 0) => ?_) (fun (c107 : ¬ (zf = 0)) => ?_)
      · obtain ⟨n2, hzn, hsu2, hem⟩ := (hm.resolve_left (fun z => by omega)).2
        have en : n2 = n := sUCC_eq hsu2 hsu
        rw [en] at hzn hem
        refine R_s (P := True) (f' := (38, [some (vR 88), some (vI ze)], [vI ze, vR 88], LAY (u (u (u (u (u (u (u (u (u (u (shA A) 21 y0) 22 y1) 23 y2) 24 y3) 25 y4) 26 y5) 27 y6) 28 y7) 87 (wr (A 87) 7 ((rd (A 87) 7) + 1))) 100 l100) (u (u (u (u (u (u (shF F) 6 ya) 7 yv) 8 ye) 26 zf) 25 za) 27 zv), 0, 0)) hc140 2 rfl trivial ?_
        refine R_cv hc140 rfl rfl (l_good (A := (u (u (u (u (u (u (u (u (u (u (shA A) 21 y0) 22 y1) 23 y2) 24 y3) 25 y4) 26 y5) 27 y6) 28 y7) 87 (wr (A 87) 7 ((rd (A 87) 7) + 1))) 100 l100)) (F := (u (u (u (u (u (u (shF F) 6 ya) 7 yv) 8 ye) 26 zf) 25 za) 27 zv)) (by show l100.length = 288; exact k100) ⟨(show 0 ≤ F 0 by omega), (show F 0 ≤ 5 by omega)⟩ ⟨p1, p2⟩ (n := n) hzn hn6.2 (fun j hj => ⟨fun q => (eV_num (hem j hj)).1 (.inr (.inl q)), (eV_num (hem j hj)).2⟩)) (fun r G9 hp9 => ?_)
        obtain ⟨zd, rfl, rfl, hgd0⟩ := hp9
        have hgd : (zd = 1 ∧ sOUND (fun j => rd l100 (48 * F 0 + 8 * j)) (fun j => rd l100 (48 * F 0 + 8 * j + 1)) (fun j => rd l100 (48 * F 0 + 8 * j + 2)) (F 3) n) ∨ (zd = 0 ∧ ¬ sOUND (fun j => rd l100 (48 * F 0 + 8 * j)) (fun j => rd l100 (48 * F 0 + 8 * j + 1)) (fun j => rd l100 (48 * F 0 + 8 * j + 2)) (F 3) n) := hgd0
        have hso : sOUND (fun j => rd y0 j) (fun j => rd y1 j) (fun j => rd y2 j) (F 3) n ↔ sOUND (fun j => rd l100 (48 * F 0 + 8 * j)) (fun j => rd l100 (48 * F 0 + 8 * j + 1)) (fun j => rd l100 (48 * F 0 + 8 * j + 2)) (F 3) n := sOUND_eq (fun j hj => by
          have z1 := hev j hj
          have z2 := hem j hj
          (try dsimp only)
          refine ⟨by rw [z1.1, z2.1], fun q => ?_⟩
          rcases q with q | q
          · have w : eK (A 18) (F 5) j (sT (A 18) (F 5) j) = 1 := z1.1.symm.trans q
            have w2 : rd l100 (48 * F 0 + 8 * j) = 1 := by rw [z2.1]; exact w
            exact ⟨by rw [(z1.2.2.1 q).1, (z2.2.2.1 w2).1], by rw [(z1.2.2.1 q).2.1, (z2.2.2.1 w2).2.1]⟩
          · have w : eK (A 18) (F 5) j (sT (A 18) (F 5) j) = 2 := z1.1.symm.trans q
            have w2 : rd l100 (48 * F 0 + 8 * j) = 2 := by rw [z2.1]; exact w
            exact ⟨by rw [(z1.2.2.2.1 q).1, (z2.2.2.2.1 w2).1], by rw [(z1.2.2.2.1 q).2, (z2.2.2.2.1 w2).2]⟩)
        have hx3 : zd = yd := by
          rcases hsd with h1 | h1 <;> rcases hgd with h2 | h2
          · omega
          · exact absurd (hso.mp h1.2) h2.2
          · exact absurd (hso.mpr h2.2) h1.2
          · omega
        refine R_s (f' := (41, [some (vR 88), some (vI ze)], [vI zd], LAY (u (u (u (u (u (u (u (u (u (u (shA A) 21 y0) 22 y1) 23 y2) 24 y3) 25 y4) 26 y5) 27 y6) 28 y7) 87 (wr (A 87) 7 ((rd (A 87) 7) + 1))) 100 l100) (u (u (u (u (u (u (shF F) 6 ya) 7 yv) 8 ye) 26 zf) 25 za) 27 zv), 0, 0)) hc140 0 rfl trivial ?_
        refine R_if (t := 51) hc140 rfl rfl (fun (c108 : ¬ zd = 0) => ?_) (fun (c108 : ¬ (¬ zd = 0)) => ?_)
        · exact absurd (show ¬ yd = 0 by rw [← hx3]; assumption) (by assumption)
        · refine R_s (P := True) (f' := (47, [some (vR 88), some (vI ze)], [vI (-7), vR 88], LAY (u (u (u (u (u (u (u (u (u (u (shA A) 21 y0) 22 y1) 23 y2) 24 y3) 25 y4) 26 y5) 27 y6) 28 y7) 87 (wr (A 87) 7 ((rd (A 87) 7) + 1))) 100 l100) (u (u (u (u (u (u (shF F) 6 ya) 7 yv) 8 ye) 26 zf) 25 za) 27 zv), 0, 0)) hc140 2 rfl trivial ?_
          refine R_cv hc140 rfl rfl ?_ (fun r G h => h)
          refine R_s (P := inI 7 ∧ (0 ≤ 7 ∧ 7 < ((A 87).length : Int)) ∧ inI ((rd (A 87) 7) + 1) ∧ (0 ≤ 7 ∧ 7 < ((A 87).length : Int)) ∧ True) (f' := (12, [some (vR 88), some (vI (-7))], [vI (-7)], LAY (u (u (u (u (u (u (u (u (u (u (u (shA A) 21 y0) 22 y1) 23 y2) 24 y3) 25 y4) 26 y5) 27 y6) 28 y7) 87 (wr (A 87) 7 ((rd (A 87) 7) + 1))) 100 l100) 89 (wr (A 87) 7 ((rd (A 87) 7) + 1))) (u (u (u (u (u (u (shF F) 6 ya) 7 yv) 8 ye) 26 zf) 25 za) 27 zv), 0, 0)) hc105 10 rfl ⟨⟨by omega, by omega⟩, ⟨by omega, by omega⟩, ⟨by omega, by omega⟩, ⟨by omega, by omega⟩, trivial⟩ ?_
          refine R_reti hc105 rfl rfl ?_
          refine R_s (f' := (50, [some (vR 88), some (vI ze)], [vI (-7)], LAY (u (u (u (u (u (u (u (u (u (u (u (shA A) 21 y0) 22 y1) 23 y2) 24 y3) 25 y4) 26 y5) 27 y6) 28 y7) 87 (wr (A 87) 7 ((rd (A 87) 7) + 1))) 100 l100) 89 (wr (A 87) 7 ((rd (A 87) 7) + 1))) (u (u (u (u (u (u (shF F) 6 ya) 7 yv) 8 ye) 26 zf) 25 za) 27 zv), 0, 0)) hc140 0 rfl trivial ?_
          refine R_reti hc140 rfl rfl ?_
          first
            | (exfalso; omega; done)
            | exact ⟨rfl, (u (u (u (u (u (u (u (u (u (u A 21 y0) 22 y1) 23 y2) 24 y3) 25 y4) 26 y5) 27 y6) 28 y7) 87 (wr (A 87) 7 ((rd (A 87) 7) + 1))) 100 l100), (u (u (u (u (u (u F 6 ya) 7 yv) 8 ye) 26 zf) 25 za) 27 zv), rfl, rfl, ⟨(LENS_u (LENS_u (LENS_u (LENS_u (LENS_u (LENS_u (LENS_u (LENS_u (LENS_u (LENS_u hL (by show (y0).length = (A 21).length; rw [ly0, hL 21 (by decide)]; rfl)) (by show (y1).length = (A 22).length; rw [ly1, hL 22 (by decide)]; rfl)) (by show (y2).length = (A 23).length; rw [ly2, hL 23 (by decide)]; rfl)) (by show (y3).length = (A 24).length; rw [ly3, hL 24 (by decide)]; rfl)) (by show (y4).length = (A 25).length; rw [ly4, hL 25 (by decide)]; rfl)) (by show (y5).length = (A 26).length; rw [ly5, hL 26 (by decide)]; rfl)) (by show (y6).length = (A 27).length; rw [ly6, hL 27 (by decide)]; rfl)) (by show (y7).length = (A 28).length; rw [ly7, hL 28 (by decide)]; rfl)) (wr_len _ _ _)) (by show (l100).length = (A 100).length; rw [k100, hL 100 (by decide)]; rfl)), hR0.2.1, hR0.2.2.1, hR0.2.2.2.1, ⟨⟨(show 0 ≤ F 0 by omega), (show F 0 ≤ 6 by omega)⟩, fun q => absurd (show (0 : Int) < F 0 from q) (by omega), fun q => absurd (show (1 : Int) < F 0 from q) (by omega), fun q => absurd (show (2 : Int) < F 0 from q) (by omega), fun q => absurd (show (3 : Int) < F 0 from q) (by omega), fun q => absurd (show (4 : Int) < F 0 from q) (by omega), fun q => absurd (show (5 : Int) < F 0 from q) (by omega)⟩, hR0.2.2.2.2.2.1, hR0.2.2.2.2.2.2.1, hR0.2.2.2.2.2.2.2.1, hR0.2.2.2.2.2.2.2.2.1, (REFU_up hR0.2.2.2.2.2.2.2.2.2 (hL 87 (by decide)) (by decide) (by decide))⟩⟩
      · exfalso
        omega
  · refine R_s (P := inI ((-10) - ya) ∧ True) (f' := (58, [some (vR 1), some (vR 20)], [vI ((-10) - ya)], LAY (u (u (u (u (u (u (u (u (shA A) 21 y0) 22 y1) 23 y2) 24 y3) 25 y4) 26 y5) 27 y6) 28 y7) (u (u (u (shF F) 6 ya) 7 yv) 8 ye), 0, 0)) hc72 5 rfl ⟨⟨by omega, by omega⟩, trivial⟩ ?_
    refine R_reti hc72 rfl rfl ⟨⟨_, rfl⟩, ⟨_, _, rfl, rfl⟩, ?_⟩
    refine R_s (P := True) (f' := (6, [some (vR 88), none], [vI 6, vI (F 0)], LAY (u (u (u (u (u (u (u (u (shA A) 21 y0) 22 y1) 23 y2) 24 y3) 25 y4) 26 y5) 27 y6) 28 y7) (u (u (u (shF F) 6 ya) 7 yv) 8 ye), 0, 0)) hc140 3 rfl trivial ?_
    refine R_ic (t := 16) hc140 rfl rfl (fun (_ : ¬ F 0 = 6) => ?_) (fun (z : ¬ (¬ F 0 = 6)) => absurd (show ¬ F 0 = 6 by omega) z)
    refine R_s (P := True) (f' := (17, [some (vR 88), none], [vR 88], LAY (u (u (u (u (u (u (u (u (shA A) 21 y0) 22 y1) 23 y2) 24 y3) 25 y4) 26 y5) 27 y6) 28 y7) (u (u (u (shF F) 6 ya) 7 yv) 8 ye), 0, 0)) hc140 1 rfl trivial ?_
    refine R_cv hc140 rfl rfl (l_reads (A := (u (u (u (u (u (u (u (u (shA A) 21 y0) 22 y1) 23 y2) 24 y3) 25 y4) 26 y5) 27 y6) 28 y7)) (F := (u (u (u (shF F) 6 ya) 7 yv) 8 ye)) hT1 (hL 18 (by decide)) (hL 100 (by decide)) ⟨(show 0 ≤ F 0 by omega), (show F 0 ≤ 5 by omega)⟩) (fun r G9 hp9 => ?_)
    obtain ⟨l100, zf, za, ze, zv, rfl, rfl, k100, kk0, zab, hm0⟩ := hp9
    have zab : 0 ≤ za ∧ za ≤ F 5 := zab
    have kk : ∀ q : Int, 0 ≤ q → q < 48 * F 0 → rd l100 q = rd (A 100) q := kk0
    have hm : (zf = 1 ∧ fAIL (A 18) (F 5) za) ∨ (zf = 0 ∧ ∃ n : Nat, ze = n ∧ sUCC (A 18) (F 5) n ∧ ∀ j : Nat, j < n → eV (A 18) (F 5) j (sT (A 18) (F 5) j) (rd l100 (48 * F 0 + 8 * j)) (rd l100 (48 * F 0 + 8 * j + 1)) (rd l100 (48 * F 0 + 8 * j + 2)) (rd l100 (48 * F 0 + 8 * j + 3)) (rd l100 (48 * F 0 + 8 * j + 4)) (rd l100 (48 * F 0 + 8 * j + 5) + 1) (rd l100 (48 * F 0 + 8 * j + 6)) (rd l100 (48 * F 0 + 8 * j + 7))) := hm0
    have hx1 : yc = 0 → zf = 1 ∧ za = ya := fun q => by
      have h1 := (hcase.resolve_right (fun z => by omega)).2
      rcases hm with h2 | h2
      · exact ⟨h2.1, fAIL_eq h2.2 h1⟩
      · obtain ⟨n2, -, h3, -⟩ := h2.2
        exact absurd (sUCC_fAIL h3 h1) id
    have hx2 : yc = 1 → zf = 0 := fun q => by
      obtain ⟨n2, -, h3, -⟩ := (hcase.resolve_left (fun z => by omega)).2
      rcases hm with h2 | h2
      · exact absurd (sUCC_fAIL h3 h2.2) id
      · exact h2.1
    refine R_s (f' := (20, [some (vR 88), none], [vI ze], LAY (u (u (u (u (u (u (u (u (u (shA A) 21 y0) 22 y1) 23 y2) 24 y3) 25 y4) 26 y5) 27 y6) 28 y7) 100 l100) (u (u (u (u (u (u (shF F) 6 ya) 7 yv) 8 ye) 26 zf) 25 za) 27 zv), 0, 0)) hc140 0 rfl trivial ?_
    refine R_s (P := True) (f' := (25, [some (vR 88), some (vI ze)], [vI zf], LAY (u (u (u (u (u (u (u (u (u (shA A) 21 y0) 22 y1) 23 y2) 24 y3) 25 y4) 26 y5) 27 y6) 28 y7) 100 l100) (u (u (u (u (u (u (shF F) 6 ya) 7 yv) 8 ye) 26 zf) 25 za) 27 zv), 0, 0)) hc140 3 rfl trivial ?_
    refine R_if (t := 36) hc140 rfl rfl (fun (c107 : zf = 0) => ?_) (fun (c107 : ¬ (zf = 0)) => ?_)
    · exfalso
      omega
    · refine R_s (P := inI ((-10) - za) ∧ True) (f' := (35, [some (vR 88), some (vI ze)], [vI ((-10) - za)], LAY (u (u (u (u (u (u (u (u (u (shA A) 21 y0) 22 y1) 23 y2) 24 y3) 25 y4) 26 y5) 27 y6) 28 y7) 100 l100) (u (u (u (u (u (u (shF F) 6 ya) 7 yv) 8 ye) 26 zf) 25 za) 27 zv), 0, 0)) hc140 4 rfl ⟨⟨by omega, by omega⟩, trivial⟩ ?_
      refine R_reti hc140 rfl rfl ?_
      first
        | (exfalso; omega; done)
        | exact ⟨(by rw [show (-10) - za = (-10) - ya by omega]), (u (u (u (u (u (u (u (u (u A 21 y0) 22 y1) 23 y2) 24 y3) 25 y4) 26 y5) 27 y6) 28 y7) 100 l100), (u (u (u (u (u (u F 6 ya) 7 yv) 8 ye) 26 zf) 25 za) 27 zv), rfl, rfl, ⟨(LENS_u (LENS_u (LENS_u (LENS_u (LENS_u (LENS_u (LENS_u (LENS_u (LENS_u hL (by show (y0).length = (A 21).length; rw [ly0, hL 21 (by decide)]; rfl)) (by show (y1).length = (A 22).length; rw [ly1, hL 22 (by decide)]; rfl)) (by show (y2).length = (A 23).length; rw [ly2, hL 23 (by decide)]; rfl)) (by show (y3).length = (A 24).length; rw [ly3, hL 24 (by decide)]; rfl)) (by show (y4).length = (A 25).length; rw [ly4, hL 25 (by decide)]; rfl)) (by show (y5).length = (A 26).length; rw [ly5, hL 26 (by decide)]; rfl)) (by show (y6).length = (A 27).length; rw [ly6, hL 27 (by decide)]; rfl)) (by show (y7).length = (A 28).length; rw [ly7, hL 28 (by decide)]; rfl)) (by show (l100).length = (A 100).length; rw [k100, hL 100 (by decide)]; rfl)), hR0.2.1, hR0.2.2.1, hR0.2.2.2.1, ⟨⟨(show 0 ≤ F 0 by omega), (show F 0 ≤ 6 by omega)⟩, fun q => absurd (show (0 : Int) < F 0 from q) (by omega), fun q => absurd (show (1 : Int) < F 0 from q) (by omega), fun q => absurd (show (2 : Int) < F 0 from q) (by omega), fun q => absurd (show (3 : Int) < F 0 from q) (by omega), fun q => absurd (show (4 : Int) < F 0 from q) (by omega), fun q => absurd (show (5 : Int) < F 0 from q) (by omega)⟩, hR0.2.2.2.2.2.1, hR0.2.2.2.2.2.2.1, hR0.2.2.2.2.2.2.2.1, hR0.2.2.2.2.2.2.2.2.1, (REFU_c hR0.2.2.2.2.2.2.2.2.2)⟩⟩

theorem op_deed_1 {c : Int} {A : Nat → List Int} {F : Nat → Int} (hR : REL c A F) (hc : c < 512) (hd : F 0 = 1) : R 72 (0, L0 72 [vR 1], [], LAY (shA A) (shF F), 0, 0) (fun r G => (∃ x, r = some (vI x)) ∧ (∃ (A1 : Nat → List Int) (F1 : Nat → Int), G = LAY A1 F1 ∧ A1 0 = A 0) ∧ R 140 (0, L0 140 [vR 88], [], G, 0, 0) (fun r2 G2 => r2 = r ∧ ∃ (A' : Nat → List Int) (F' : Nat → Int), G2 = LAY (shA A') (shF F') ∧ A' 0 = A 0 ∧ REL (c + 1) A' F')) := by
  have hR0 := hR
  obtain ⟨hL, hPE, hTH, hTP, hDE, hLE, hNO, hAC, hRO, hRE⟩ := hR
  have h87 : (A 87).length = 9 := hL 87 (by decide)
  have h99 : (A 99).length = 6 := hL 99 (by decide)
  have r2 := REFU_at hRE (k := 2) (by decide) (by decide) hc
  have r3 := REFU_at hRE (k := 3) (by decide) (by decide) hc
  have r4 := REFU_at hRE (k := 4) (by decide) (by decide) hc
  have r5 := REFU_at hRE (k := 5) (by decide) (by decide) hc
  have r6 := REFU_at hRE (k := 6) (by decide) (by decide) hc
  have r7 := REFU_at hRE (k := 7) (by decide) (by decide) hc
  have r8 := REFU_at hRE (k := 8) (by decide) (by decide) hc
  obtain ⟨t1, t2, t3, t4, t5, t6⟩ := hTH
  obtain ⟨p1, p2, p3, p4, p5, p6⟩ := hPE
  have hT1 := hR0.2.2.2.1
  have hDE2 := hR0.2.2.2.2.1.2
  have x0 : (A 30).length = 6 := hL 30 (by decide)
  have x1 : (A 31).length = 6 := hL 31 (by decide)
  have x2 : (A 32).length = 6 := hL 32 (by decide)
  have x3 : (A 33).length = 6 := hL 33 (by decide)
  have x4 : (A 34).length = 6 := hL 34 (by decide)
  have x5 : (A 35).length = 6 := hL 35 (by decide)
  have x6 : (A 36).length = 6 := hL 36 (by decide)
  have x7 : (A 37).length = 6 := hL 37 (by decide)
  refine R_s (P := True) (f' := (6, [some (vR 1), none], [vI 6, vI (F 0)], LAY (shA A) (shF F), 0, 0)) hc72 3 rfl trivial ?_
  refine R_ic (t := 16) hc72 rfl rfl (fun (_ : F 0 < 6) => ?_) (fun (z : ¬ (F 0 < 6)) => absurd (show F 0 < 6 by omega) z)
  refine R_s (P := True) (f' := (24, [some (vR 1), none], [vI (F 0), vR 19], LAY (shA A) (shF F), 0, 0)) hc72 4 rfl trivial ?_
  rw [hd]
  refine R_s (P := (0 ≤ (1 : Int) ∧ (1 : Int) < (([some 20, some 29, some 38, some 47, some 56, some 65] : List (Option Nat)).length : Int)) ∧ True) (f' := (42, [some (vR 1), some (vR 29)], [vR 29, vR 17], LAY (shA A) (shF F), 0, 0)) hc72 7 rfl ⟨(by decide), trivial⟩ ?_
  refine R_cv hc72 rfl rfl (l_rdeed1 (A := shA A) (F := shF F) (LENS_sh hL) hT1) (fun r G9 hp9 => ?_)
  obtain ⟨yc, y0, y1, y2, y3, y4, y5, y6, y7, ya, yv, ye, rfl, rfl, ly0, ly1, ly2, ly3, ly4, ly5, ly6, ly7, yab, hcase0⟩ := hp9
  have yab : 0 ≤ ya ∧ ya ≤ F 5 := yab
  have hcase : (yc = 0 ∧ fAIL (A 18) (F 5) ya) ∨ (yc = 1 ∧ ∃ n : Nat, ye = n ∧ sUCC (A 18) (F 5) n ∧ ∀ j : Nat, j < n → eV (A 18) (F 5) j (sT (A 18) (F 5) j) (rd y0 j) (rd y1 j) (rd y2 j) (rd y3 j) (rd y4 j) (rd y5 j) (rd y6 j) (rd y7 j)) := hcase0
  have yc1 : yc = 0 ∨ yc = 1 := by omega
  refine R_s (f' := (45, [some (vR 1), some (vR 29)], [vI yc], LAY (u (u (u (u (u (u (u (u (shA A) 30 y0) 31 y1) 32 y2) 33 y3) 34 y4) 35 y5) 36 y6) 37 y7) (u (u (u (shF F) 6 ya) 7 yv) 9 ye), 0, 0)) hc72 0 rfl trivial ?_
  refine R_if (t := 59) hc72 rfl rfl (fun (c2 : ¬ yc = 0) => ?_) (fun (c2 : ¬ (¬ yc = 0)) => ?_)
  · obtain ⟨n, hyn, hsu, hev⟩ := (hcase.resolve_left (fun z => by omega)).2
    have hn6 : 1 ≤ n ∧ n ≤ 6 := by
      obtain ⟨i0, e0, h6, -⟩ := hsu
      omega
    refine R_s (P := True) (f' := (67, [some (vR 1), some (vR 29)], [vI (F 3), vR 29], LAY (u (u (u (u (u (u (u (u (shA A) 30 y0) 31 y1) 32 y2) 33 y3) 34 y4) 35 y5) 36 y6) 37 y7) (u (u (u (shF F) 6 ya) 7 yv) 9 ye), 0, 0)) hc72 4 rfl trivial ?_
    refine R_cv hc72 rfl rfl (l_sound1 (A := (u (u (u (u (u (u (u (u (shA A) 30 y0) 31 y1) 32 y2) 33 y3) 34 y4) 35 y5) 36 y6) 37 y7)) (F := (u (u (u (shF F) 6 ya) 7 yv) 9 ye)) (LENS_u (LENS_u (LENS_u (LENS_u (LENS_u (LENS_u (LENS_u (LENS_u (LENS_sh hL) (by show y0.length = (A 30).length; omega)) (by show y1.length = (A 31).length; omega)) (by show y2.length = (A 32).length; omega)) (by show y3.length = (A 33).length; omega)) (by show y4.length = (A 34).length; omega)) (by show y5.length = (A 35).length; omega)) (by show y6.length = (A 36).length; omega)) (by show y7.length = (A 37).length; omega)) (e := n) hn6.2 hyn (fun j hj q => ((eV_num (hev j hj)).1 (.inr (.inl q))))) (fun r G9 hp9 => ?_)
    obtain ⟨yd, rfl, rfl, hsd0⟩ := hp9
    have hsd : (yd = 1 ∧ sOUND (fun j => rd y0 j) (fun j => rd y1 j) (fun j => rd y2 j) (F 3) n) ∨ (yd = 0 ∧ ¬ sOUND (fun j => rd y0 j) (fun j => rd y1 j) (fun j => rd y2 j) (F 3) n) := hsd0
    have yd1 : yd = 0 ∨ yd = 1 := by omega
    refine R_s (f' := (70, [some (vR 1), some (vR 29)], [vI yd], LAY (u (u (u (u (u (u (u (u (shA A) 30 y0) 31 y1) 32 y2) 33 y3) 34 y4) 35 y5) 36 y6) 37 y7) (u (u (u (shF F) 6 ya) 7 yv) 9 ye), 0, 0)) hc72 0 rfl trivial ?_
    refine R_if (t := 80) hc72 rfl rfl (fun (c3 : ¬ yd = 0) => ?_) (fun (c3 : ¬ (¬ yd = 0)) => ?_)
    · refine R_s (P := inI ((F 0) + 1) ∧ inI (((F 0) + 1) - 1) ∧ True) (f' := (104, [some (vR 1), some (vR 29)], [vI (((F 0) + 1) - 1)], LAY (u (u (u (u (u (u (u (u (shA A) 30 y0) 31 y1) 32 y2) 33 y3) 34 y4) 35 y5) 36 y6) 37 y7) (u (u (u (u (u (shF F) 6 ya) 7 yv) 9 ye) 5 0) 0 ((F 0) + 1)), 0, 0)) hc72 14 rfl ⟨⟨by omega, by omega⟩, ⟨by omega, by omega⟩, trivial⟩ ?_
      refine R_reti hc72 rfl rfl ⟨⟨_, rfl⟩, ⟨_, _, rfl, rfl⟩, ?_⟩
      refine R_s (P := True) (f' := (6, [some (vR 88), none], [vI 6, vI (F 0)], LAY (u (u (u (u (u (u (u (u (shA A) 30 y0) 31 y1) 32 y2) 33 y3) 34 y4) 35 y5) 36 y6) 37 y7) (u (u (u (u (u (shF F) 6 ya) 7 yv) 9 ye) 5 0) 0 ((F 0) + 1)), 0, 0)) hc140 3 rfl trivial ?_
      refine R_ic (t := 16) hc140 rfl rfl (fun (_ : ¬ F 0 = 6) => ?_) (fun (z : ¬ (¬ F 0 = 6)) => absurd (show ¬ F 0 = 6 by omega) z)
      refine R_s (P := True) (f' := (17, [some (vR 88), none], [vR 88], LAY (u (u (u (u (u (u (u (u (shA A) 30 y0) 31 y1) 32 y2) 33 y3) 34 y4) 35 y5) 36 y6) 37 y7) (u (u (u (u (u (shF F) 6 ya) 7 yv) 9 ye) 5 0) 0 ((F 0) + 1)), 0, 0)) hc140 1 rfl trivial ?_
      refine R_cv hc140 rfl rfl (l_reads (A := (u (u (u (u (u (u (u (u (shA A) 30 y0) 31 y1) 32 y2) 33 y3) 34 y4) 35 y5) 36 y6) 37 y7)) (F := (u (u (u (u (u (shF F) 6 ya) 7 yv) 9 ye) 5 0) 0 ((F 0) + 1))) hT1 (hL 18 (by decide)) (hL 100 (by decide)) ⟨(show 0 ≤ F 0 by omega), (show F 0 ≤ 5 by omega)⟩) (fun r G9 hp9 => ?_)
      obtain ⟨l100, zf, za, ze, zv, rfl, rfl, k100, kk0, zab, hm0⟩ := hp9
      have zab : 0 ≤ za ∧ za ≤ F 5 := zab
      have kk : ∀ q : Int, 0 ≤ q → q < 48 * F 0 → rd l100 q = rd (A 100) q := kk0
      have hm : (zf = 1 ∧ fAIL (A 18) (F 5) za) ∨ (zf = 0 ∧ ∃ n : Nat, ze = n ∧ sUCC (A 18) (F 5) n ∧ ∀ j : Nat, j < n → eV (A 18) (F 5) j (sT (A 18) (F 5) j) (rd l100 (48 * F 0 + 8 * j)) (rd l100 (48 * F 0 + 8 * j + 1)) (rd l100 (48 * F 0 + 8 * j + 2)) (rd l100 (48 * F 0 + 8 * j + 3)) (rd l100 (48 * F 0 + 8 * j + 4)) (rd l100 (48 * F 0 + 8 * j + 5) + 1) (rd l100 (48 * F 0 + 8 * j + 6)) (rd l100 (48 * F 0 + 8 * j + 7))) := hm0
      have hx1 : yc = 0 → zf = 1 ∧ za = ya := fun q => by
        have h1 := (hcase.resolve_right (fun z => by omega)).2
        rcases hm with h2 | h2
        · exact ⟨h2.1, fAIL_eq h2.2 h1⟩
        · obtain ⟨n2, -, h3, -⟩ := h2.2
          exact absurd (sUCC_fAIL h3 h1) id
      have hx2 : yc = 1 → zf = 0 := fun q => by
        obtain ⟨n2, -, h3, -⟩ := (hcase.resolve_left (fun z => by omega)).2
        rcases hm with h2 | h2
        · exact absurd (sUCC_fAIL h3 h2.2) id
        · exact h2.1
      refine R_s (f' := (20, [some (vR 88), none], [vI ze], LAY (u (u (u (u (u (u (u (u (u (shA A) 30 y0) 31 y1) 32 y2) 33 y3) 34 y4) 35 y5) 36 y6) 37 y7) 100 l100) (u (u (u (u (u (u (u (u (shF F) 6 ya) 7 yv) 9 ye) 5 0) 0 ((F 0) + 1)) 26 zf) 25 za) 27 zv), 0, 0)) hc140 0 rfl trivial ?_
      refine R_s (P := True) (f' := (25, [some (vR 88), some (vI ze)], [vI zf], LAY (u (u (u (u (u (u (u (u (u (shA A) 30 y0) 31 y1) 32 y2) 33 y3) 34 y4) 35 y5) 36 y6) 37 y7) 100 l100) (u (u (u (u (u (u (u (u (shF F) 6 ya) 7 yv) 9 ye) 5 0) 0 ((F 0) + 1)) 26 zf) 25 za) 27 zv), 0, 0)) hc140 3 rfl trivial ?_
      refine R_if (t := 36) hc140 rfl rfl (fun (c105 : zf = 0) => ?_) (fun (c105 : ¬ (zf = 0)) => ?_)
      · obtain ⟨n2, hzn, hsu2, hem⟩ := (hm.resolve_left (fun z => by omega)).2
        have en : n2 = n := sUCC_eq hsu2 hsu
        rw [en] at hzn hem
        refine R_s (P := True) (f' := (38, [some (vR 88), some (vI ze)], [vI ze, vR 88], LAY (u (u (u (u (u (u (u (u (u (shA A) 30 y0) 31 y1) 32 y2) 33 y3) 34 y4) 35 y5) 36 y6) 37 y7) 100 l100) (u (u (u (u (u (u (u (u (shF F) 6 ya) 7 yv) 9 ye) 5 0) 0 ((F 0) + 1)) 26 zf) 25 za) 27 zv), 0, 0)) hc140 2 rfl trivial ?_
        refine R_cv hc140 rfl rfl (l_good (A := (u (u (u (u (u (u (u (u (u (shA A) 30 y0) 31 y1) 32 y2) 33 y3) 34 y4) 35 y5) 36 y6) 37 y7) 100 l100)) (F := (u (u (u (u (u (u (u (u (shF F) 6 ya) 7 yv) 9 ye) 5 0) 0 ((F 0) + 1)) 26 zf) 25 za) 27 zv)) (by show l100.length = 288; exact k100) ⟨(show 0 ≤ F 0 by omega), (show F 0 ≤ 5 by omega)⟩ ⟨p1, p2⟩ (n := n) hzn hn6.2 (fun j hj => ⟨fun q => (eV_num (hem j hj)).1 (.inr (.inl q)), (eV_num (hem j hj)).2⟩)) (fun r G9 hp9 => ?_)
        obtain ⟨zd, rfl, rfl, hgd0⟩ := hp9
        have hgd : (zd = 1 ∧ sOUND (fun j => rd l100 (48 * F 0 + 8 * j)) (fun j => rd l100 (48 * F 0 + 8 * j + 1)) (fun j => rd l100 (48 * F 0 + 8 * j + 2)) (F 3) n) ∨ (zd = 0 ∧ ¬ sOUND (fun j => rd l100 (48 * F 0 + 8 * j)) (fun j => rd l100 (48 * F 0 + 8 * j + 1)) (fun j => rd l100 (48 * F 0 + 8 * j + 2)) (F 3) n) := hgd0
        have hso : sOUND (fun j => rd y0 j) (fun j => rd y1 j) (fun j => rd y2 j) (F 3) n ↔ sOUND (fun j => rd l100 (48 * F 0 + 8 * j)) (fun j => rd l100 (48 * F 0 + 8 * j + 1)) (fun j => rd l100 (48 * F 0 + 8 * j + 2)) (F 3) n := sOUND_eq (fun j hj => by
          have z1 := hev j hj
          have z2 := hem j hj
          (try dsimp only)
          refine ⟨by rw [z1.1, z2.1], fun q => ?_⟩
          rcases q with q | q
          · have w : eK (A 18) (F 5) j (sT (A 18) (F 5) j) = 1 := z1.1.symm.trans q
            have w2 : rd l100 (48 * F 0 + 8 * j) = 1 := by rw [z2.1]; exact w
            exact ⟨by rw [(z1.2.2.1 q).1, (z2.2.2.1 w2).1], by rw [(z1.2.2.1 q).2.1, (z2.2.2.1 w2).2.1]⟩
          · have w : eK (A 18) (F 5) j (sT (A 18) (F 5) j) = 2 := z1.1.symm.trans q
            have w2 : rd l100 (48 * F 0 + 8 * j) = 2 := by rw [z2.1]; exact w
            exact ⟨by rw [(z1.2.2.2.1 q).1, (z2.2.2.2.1 w2).1], by rw [(z1.2.2.2.1 q).2, (z2.2.2.2.1 w2).2]⟩)
        have hx3 : zd = yd := by
          rcases hsd with h1 | h1 <;> rcases hgd with h2 | h2
          · omega
          · exact absurd (hso.mp h1.2) h2.2
          · exact absurd (hso.mpr h2.2) h1.2
          · omega
        refine R_s (f' := (41, [some (vR 88), some (vI ze)], [vI zd], LAY (u (u (u (u (u (u (u (u (u (shA A) 30 y0) 31 y1) 32 y2) 33 y3) 34 y4) 35 y5) 36 y6) 37 y7) 100 l100) (u (u (u (u (u (u (u (u (shF F) 6 ya) 7 yv) 9 ye) 5 0) 0 ((F 0) + 1)) 26 zf) 25 za) 27 zv), 0, 0)) hc140 0 rfl trivial ?_
        refine R_if (t := 51) hc140 rfl rfl (fun (c106 : ¬ zd = 0) => ?_) (fun (c106 : ¬ (¬ zd = 0)) => ?_)
        · refine R_s (P := (0 ≤ F 0 ∧ F 0 < ((A 99).length : Int)) ∧ inI ((F 0) + 1) ∧ inI (((F 0) + 1) - 1) ∧ True) (f' := (82, [some (vR 88), some (vI ze)], [vI (((F 0) + 1) - 1)], LAY (u (u (u (u (u (u (u (u (u (u (shA A) 30 y0) 31 y1) 32 y2) 33 y3) 34 y4) 35 y5) 36 y6) 37 y7) 100 l100) 99 (wr (A 99) (F 0) ze)) (u (u (u (u (u (u (u (u (u (u (shF F) 6 ya) 7 yv) 9 ye) 5 0) 0 ((F 0) + 1)) 26 zf) 25 za) 27 zv) 24 0) 21 ((F 0) + 1)), 0, 0)) hc140 19 rfl ⟨⟨by omega, by omega⟩, ⟨by omega, by omega⟩, ⟨by omega, by omega⟩, trivial⟩ ?_
          refine R_reti hc140 rfl rfl ?_
          first
            | (exfalso; omega; done)
            | exact ⟨rfl, (u (u (u (u (u (u (u (u (u (u A 30 y0) 31 y1) 32 y2) 33 y3) 34 y4) 35 y5) 36 y6) 37 y7) 100 l100) 99 (wr (A 99) (F 0) ze)), (u (u (u (u (u (u (u (u F 6 ya) 7 yv) 9 ye) 5 0) 0 ((F 0) + 1)) 26 zf) 25 za) 27 zv), rfl, rfl, ⟨(LENS_u (LENS_u (LENS_u (LENS_u (LENS_u (LENS_u (LENS_u (LENS_u (LENS_u (LENS_u hL (by show (y0).length = (A 30).length; rw [ly0, hL 30 (by decide)]; rfl)) (by show (y1).length = (A 31).length; rw [ly1, hL 31 (by decide)]; rfl)) (by show (y2).length = (A 32).length; rw [ly2, hL 32 (by decide)]; rfl)) (by show (y3).length = (A 33).length; rw [ly3, hL 33 (by decide)]; rfl)) (by show (y4).length = (A 34).length; rw [ly4, hL 34 (by decide)]; rfl)) (by show (y5).length = (A 35).length; rw [ly5, hL 35 (by decide)]; rfl)) (by show (y6).length = (A 36).length; rw [ly6, hL 36 (by decide)]; rfl)) (by show (y7).length = (A 37).length; rw [ly7, hL 37 (by decide)]; rfl)) (by show (l100).length = (A 100).length; rw [k100, hL 100 (by decide)]; rfl)) (by show (wr (A 99) (F 0) ze).length = (A 99).length; simp only [wr_len])), hR0.2.1, hR0.2.2.1, ⟨(show (0 : Int) ≤ 0 by decide), (show (0 : Int) ≤ 120 by decide)⟩, ⟨⟨(show 0 ≤ F 0 + 1 by omega), (show F 0 + 1 ≤ 6 by omega)⟩, fun _ => DEED_keep (by decide) (hDE2.1 (by omega)) (by show rd (wr (A 99) (F 0) ze) 0 = rd (A 99) 0; exact rd_wr_n (by omega) (by decide) (by omega)) (fun q h1 h2 => kk q (by omega) (by omega)), fun _ => by
                  have z := DEED_new (mE := wr (A 99) (F 0) ze) (d := 1) hsu hev (by rw [hd] at hem; exact hem) (by rw [hd, rd_wr_s (by omega) (by rw [hL 99 (by decide)]; decide)]; exact hzn) (hsd.resolve_right (fun z => by omega)).2
                  rw [← hyn] at z
                  exact z, fun q => absurd (show (2 : Int) < F 0 + 1 from q) (by omega), fun q => absurd (show (3 : Int) < F 0 + 1 from q) (by omega), fun q => absurd (show (4 : Int) < F 0 + 1 from q) (by omega), fun q => absurd (show (5 : Int) < F 0 + 1 from q) (by omega)⟩, hR0.2.2.2.2.2.1, hR0.2.2.2.2.2.2.1, hR0.2.2.2.2.2.2.2.1, hR0.2.2.2.2.2.2.2.2.1, (REFU_c hR0.2.2.2.2.2.2.2.2.2)⟩⟩
        · exact absurd (show ¬ zd = 0 by rw [hx3]; assumption) (by assumption)
      · exfalso
        omega
    · refine R_s (P := True) (f' := (76, [some (vR 1), some (vR 29)], [vI (-7), vR 1], LAY (u (u (u (u (u (u (u (u (shA A) 30 y0) 31 y1) 32 y2) 33 y3) 34 y4) 35 y5) 36 y6) 37 y7) (u (u (u (shF F) 6 ya) 7 yv) 9 ye), 0, 0)) hc72 2 rfl trivial ?_
      refine R_cv hc72 rfl rfl ?_ (fun r G h => h)
      refine R_s (P := True) (f' := (3, [some (vR 1), some (vI (-7))], [vI (-2), vI (-7)], LAY (u (u (u (u (u (u (u (u (shA A) 30 y0) 31 y1) 32 y2) 33 y3) 34 y4) 35 y5) 36 y6) 37 y7) (u (u (u (shF F) 6 ya) 7 yv) 9 ye), 0, 0)) hc93 2 rfl trivial ?_
      refine R_ic (t := 23) hc93 rfl rfl (fun (z : (-2) < (-7)) => absurd z (by decide)) (fun (_ : ¬ ((-2) < (-7))) => ?_)
      refine R_s (P := True) (f' := (9, [some (vR 1), some (vI (-7))], [vI (-8), vI (-7)], LAY (u (u (u (u (u (u (u (u (shA A) 30 y0) 31 y1) 32 y2) 33 y3) 34 y4) 35 y5) 36 y6) 37 y7) (u (u (u (shF F) 6 ya) 7 yv) 9 ye), 0, 0)) hc93 2 rfl trivial ?_
      refine R_ic (t := 23) hc93 rfl rfl (fun (z : (-7) < (-8)) => absurd z (by decide)) (fun (_ : ¬ ((-7) < (-8))) => ?_)
      refine R_s (P := inI 7 ∧ (0 ≤ 7 ∧ 7 < ((A 87).length : Int)) ∧ inI ((rd (A 87) 7) + 1) ∧ (0 ≤ 7 ∧ 7 < ((A 87).length : Int)) ∧ True) (f' := (24, [some (vR 1), some (vI (-7))], [vI (-7)], LAY (u (u (u (u (u (u (u (u (u (shA A) 30 y0) 31 y1) 32 y2) 33 y3) 34 y4) 35 y5) 36 y6) 37 y7) 87 (wr (A 87) 7 ((rd (A 87) 7) + 1))) (u (u (u (shF F) 6 ya) 7 yv) 9 ye), 0, 0)) hc93 10 rfl ⟨⟨by omega, by omega⟩, ⟨by omega, by omega⟩, ⟨by omega, by omega⟩, ⟨by omega, by omega⟩, trivial⟩ ?_
      refine R_reti hc93 rfl rfl ?_
      refine R_s (f' := (79, [some (vR 1), some (vR 29)], [vI (-7)], LAY (u (u (u (u (u (u (u (u (u (shA A) 30 y0) 31 y1) 32 y2) 33 y3) 34 y4) 35 y5) 36 y6) 37 y7) 87 (wr (A 87) 7 ((rd (A 87) 7) + 1))) (u (u (u (shF F) 6 ya) 7 yv) 9 ye), 0, 0)) hc72 0 rfl trivial ?_
      refine R_reti hc72 rfl rfl ⟨⟨_, rfl⟩, ⟨_, _, rfl, rfl⟩, ?_⟩
      refine R_s (P := True) (f' := (6, [some (vR 88), none], [vI 6, vI (F 0)], LAY (u (u (u (u (u (u (u (u (u (shA A) 30 y0) 31 y1) 32 y2) 33 y3) 34 y4) 35 y5) 36 y6) 37 y7) 87 (wr (A 87) 7 ((rd (A 87) 7) + 1))) (u (u (u (shF F) 6 ya) 7 yv) 9 ye), 0, 0)) hc140 3 rfl trivial ?_
      refine R_ic (t := 16) hc140 rfl rfl (fun (_ : ¬ F 0 = 6) => ?_) (fun (z : ¬ (¬ F 0 = 6)) => absurd (show ¬ F 0 = 6 by omega) z)
      refine R_s (P := True) (f' := (17, [some (vR 88), none], [vR 88], LAY (u (u (u (u (u (u (u (u (u (shA A) 30 y0) 31 y1) 32 y2) 33 y3) 34 y4) 35 y5) 36 y6) 37 y7) 87 (wr (A 87) 7 ((rd (A 87) 7) + 1))) (u (u (u (shF F) 6 ya) 7 yv) 9 ye), 0, 0)) hc140 1 rfl trivial ?_
      refine R_cv hc140 rfl rfl (l_reads (A := (u (u (u (u (u (u (u (u (u (shA A) 30 y0) 31 y1) 32 y2) 33 y3) 34 y4) 35 y5) 36 y6) 37 y7) 87 (wr (A 87) 7 ((rd (A 87) 7) + 1)))) (F := (u (u (u (shF F) 6 ya) 7 yv) 9 ye)) hT1 (hL 18 (by decide)) (hL 100 (by decide)) ⟨(show 0 ≤ F 0 by omega), (show F 0 ≤ 5 by omega)⟩) (fun r G9 hp9 => ?_)
      obtain ⟨l100, zf, za, ze, zv, rfl, rfl, k100, kk0, zab, hm0⟩ := hp9
      have zab : 0 ≤ za ∧ za ≤ F 5 := zab
      have kk : ∀ q : Int, 0 ≤ q → q < 48 * F 0 → rd l100 q = rd (A 100) q := kk0
      have hm : (zf = 1 ∧ fAIL (A 18) (F 5) za) ∨ (zf = 0 ∧ ∃ n : Nat, ze = n ∧ sUCC (A 18) (F 5) n ∧ ∀ j : Nat, j < n → eV (A 18) (F 5) j (sT (A 18) (F 5) j) (rd l100 (48 * F 0 + 8 * j)) (rd l100 (48 * F 0 + 8 * j + 1)) (rd l100 (48 * F 0 + 8 * j + 2)) (rd l100 (48 * F 0 + 8 * j + 3)) (rd l100 (48 * F 0 + 8 * j + 4)) (rd l100 (48 * F 0 + 8 * j + 5) + 1) (rd l100 (48 * F 0 + 8 * j + 6)) (rd l100 (48 * F 0 + 8 * j + 7))) := hm0
      have hx1 : yc = 0 → zf = 1 ∧ za = ya := fun q => by
        have h1 := (hcase.resolve_right (fun z => by omega)).2
        rcases hm with h2 | h2
        · exact ⟨h2.1, fAIL_eq h2.2 h1⟩
        · obtain ⟨n2, -, h3, -⟩ := h2.2
          exact absurd (sUCC_fAIL h3 h1) id
      have hx2 : yc = 1 → zf = 0 := fun q => by
        obtain ⟨n2, -, h3, -⟩ := (hcase.resolve_left (fun z => by omega)).2
        rcases hm with h2 | h2
        · exact absurd (sUCC_fAIL h3 h2.2) id
        · exact h2.1
      refine R_s (f' := (20, [some (vR 88), none], [vI ze], LAY (u (u (u (u (u (u (u (u (u (u (shA A) 30 y0) 31 y1) 32 y2) 33 y3) 34 y4) 35 y5) 36 y6) 37 y7) 87 (wr (A 87) 7 ((rd (A 87) 7) + 1))) 100 l100) (u (u (u (u (u (u (shF F) 6 ya) 7 yv) 9 ye) 26 zf) 25 za) 27 zv), 0, 0)) hc140 0 rfl trivial ?_
      refine R_s (P := True) (f' := (25, [some (vR 88), some (vI ze)], [vI zf], LAY (u (u (u (u (u (u (u (u (u (u (shA A) 30 y0) 31 y1) 32 y2) 33 y3) 34 y4) 35 y5) 36 y6) 37 y7) 87 (wr (A 87) 7 ((rd (A 87) 7) + 1))) 100 l100) (u (u (u (u (u (u (shF F) 6 ya) 7 yv) 9 ye) 26 zf) 25 za) 27 zv), 0, 0)) hc140 3 rfl trivial ?_
      refine R_if (t := 36) hc140 rfl rfl (fun (c107 : zf = 0) => ?_) (fun (c107 : ¬ (zf = 0)) => ?_)
      · obtain ⟨n2, hzn, hsu2, hem⟩ := (hm.resolve_left (fun z => by omega)).2
        have en : n2 = n := sUCC_eq hsu2 hsu
        rw [en] at hzn hem
        refine R_s (P := True) (f' := (38, [some (vR 88), some (vI ze)], [vI ze, vR 88], LAY (u (u (u (u (u (u (u (u (u (u (shA A) 30 y0) 31 y1) 32 y2) 33 y3) 34 y4) 35 y5) 36 y6) 37 y7) 87 (wr (A 87) 7 ((rd (A 87) 7) + 1))) 100 l100) (u (u (u (u (u (u (shF F) 6 ya) 7 yv) 9 ye) 26 zf) 25 za) 27 zv), 0, 0)) hc140 2 rfl trivial ?_
        refine R_cv hc140 rfl rfl (l_good (A := (u (u (u (u (u (u (u (u (u (u (shA A) 30 y0) 31 y1) 32 y2) 33 y3) 34 y4) 35 y5) 36 y6) 37 y7) 87 (wr (A 87) 7 ((rd (A 87) 7) + 1))) 100 l100)) (F := (u (u (u (u (u (u (shF F) 6 ya) 7 yv) 9 ye) 26 zf) 25 za) 27 zv)) (by show l100.length = 288; exact k100) ⟨(show 0 ≤ F 0 by omega), (show F 0 ≤ 5 by omega)⟩ ⟨p1, p2⟩ (n := n) hzn hn6.2 (fun j hj => ⟨fun q => (eV_num (hem j hj)).1 (.inr (.inl q)), (eV_num (hem j hj)).2⟩)) (fun r G9 hp9 => ?_)
        obtain ⟨zd, rfl, rfl, hgd0⟩ := hp9
        have hgd : (zd = 1 ∧ sOUND (fun j => rd l100 (48 * F 0 + 8 * j)) (fun j => rd l100 (48 * F 0 + 8 * j + 1)) (fun j => rd l100 (48 * F 0 + 8 * j + 2)) (F 3) n) ∨ (zd = 0 ∧ ¬ sOUND (fun j => rd l100 (48 * F 0 + 8 * j)) (fun j => rd l100 (48 * F 0 + 8 * j + 1)) (fun j => rd l100 (48 * F 0 + 8 * j + 2)) (F 3) n) := hgd0
        have hso : sOUND (fun j => rd y0 j) (fun j => rd y1 j) (fun j => rd y2 j) (F 3) n ↔ sOUND (fun j => rd l100 (48 * F 0 + 8 * j)) (fun j => rd l100 (48 * F 0 + 8 * j + 1)) (fun j => rd l100 (48 * F 0 + 8 * j + 2)) (F 3) n := sOUND_eq (fun j hj => by
          have z1 := hev j hj
          have z2 := hem j hj
          (try dsimp only)
          refine ⟨by rw [z1.1, z2.1], fun q => ?_⟩
          rcases q with q | q
          · have w : eK (A 18) (F 5) j (sT (A 18) (F 5) j) = 1 := z1.1.symm.trans q
            have w2 : rd l100 (48 * F 0 + 8 * j) = 1 := by rw [z2.1]; exact w
            exact ⟨by rw [(z1.2.2.1 q).1, (z2.2.2.1 w2).1], by rw [(z1.2.2.1 q).2.1, (z2.2.2.1 w2).2.1]⟩
          · have w : eK (A 18) (F 5) j (sT (A 18) (F 5) j) = 2 := z1.1.symm.trans q
            have w2 : rd l100 (48 * F 0 + 8 * j) = 2 := by rw [z2.1]; exact w
            exact ⟨by rw [(z1.2.2.2.1 q).1, (z2.2.2.2.1 w2).1], by rw [(z1.2.2.2.1 q).2, (z2.2.2.2.1 w2).2]⟩)
        have hx3 : zd = yd := by
          rcases hsd with h1 | h1 <;> rcases hgd with h2 | h2
          · omega
          · exact absurd (hso.mp h1.2) h2.2
          · exact absurd (hso.mpr h2.2) h1.2
          · omega
        refine R_s (f' := (41, [some (vR 88), some (vI ze)], [vI zd], LAY (u (u (u (u (u (u (u (u (u (u (shA A) 30 y0) 31 y1) 32 y2) 33 y3) 34 y4) 35 y5) 36 y6) 37 y7) 87 (wr (A 87) 7 ((rd (A 87) 7) + 1))) 100 l100) (u (u (u (u (u (u (shF F) 6 ya) 7 yv) 9 ye) 26 zf) 25 za) 27 zv), 0, 0)) hc140 0 rfl trivial ?_
        refine R_if (t := 51) hc140 rfl rfl (fun (c108 : ¬ zd = 0) => ?_) (fun (c108 : ¬ (¬ zd = 0)) => ?_)
        · exact absurd (show ¬ yd = 0 by rw [← hx3]; assumption) (by assumption)
        · refine R_s (P := True) (f' := (47, [some (vR 88), some (vI ze)], [vI (-7), vR 88], LAY (u (u (u (u (u (u (u (u (u (u (shA A) 30 y0) 31 y1) 32 y2) 33 y3) 34 y4) 35 y5) 36 y6) 37 y7) 87 (wr (A 87) 7 ((rd (A 87) 7) + 1))) 100 l100) (u (u (u (u (u (u (shF F) 6 ya) 7 yv) 9 ye) 26 zf) 25 za) 27 zv), 0, 0)) hc140 2 rfl trivial ?_
          refine R_cv hc140 rfl rfl ?_ (fun r G h => h)
          refine R_s (P := inI 7 ∧ (0 ≤ 7 ∧ 7 < ((A 87).length : Int)) ∧ inI ((rd (A 87) 7) + 1) ∧ (0 ≤ 7 ∧ 7 < ((A 87).length : Int)) ∧ True) (f' := (12, [some (vR 88), some (vI (-7))], [vI (-7)], LAY (u (u (u (u (u (u (u (u (u (u (u (shA A) 30 y0) 31 y1) 32 y2) 33 y3) 34 y4) 35 y5) 36 y6) 37 y7) 87 (wr (A 87) 7 ((rd (A 87) 7) + 1))) 100 l100) 89 (wr (A 87) 7 ((rd (A 87) 7) + 1))) (u (u (u (u (u (u (shF F) 6 ya) 7 yv) 9 ye) 26 zf) 25 za) 27 zv), 0, 0)) hc105 10 rfl ⟨⟨by omega, by omega⟩, ⟨by omega, by omega⟩, ⟨by omega, by omega⟩, ⟨by omega, by omega⟩, trivial⟩ ?_
          refine R_reti hc105 rfl rfl ?_
          refine R_s (f' := (50, [some (vR 88), some (vI ze)], [vI (-7)], LAY (u (u (u (u (u (u (u (u (u (u (u (shA A) 30 y0) 31 y1) 32 y2) 33 y3) 34 y4) 35 y5) 36 y6) 37 y7) 87 (wr (A 87) 7 ((rd (A 87) 7) + 1))) 100 l100) 89 (wr (A 87) 7 ((rd (A 87) 7) + 1))) (u (u (u (u (u (u (shF F) 6 ya) 7 yv) 9 ye) 26 zf) 25 za) 27 zv), 0, 0)) hc140 0 rfl trivial ?_
          refine R_reti hc140 rfl rfl ?_
          first
            | (exfalso; omega; done)
            | exact ⟨rfl, (u (u (u (u (u (u (u (u (u (u A 30 y0) 31 y1) 32 y2) 33 y3) 34 y4) 35 y5) 36 y6) 37 y7) 87 (wr (A 87) 7 ((rd (A 87) 7) + 1))) 100 l100), (u (u (u (u (u (u F 6 ya) 7 yv) 9 ye) 26 zf) 25 za) 27 zv), rfl, rfl, ⟨(LENS_u (LENS_u (LENS_u (LENS_u (LENS_u (LENS_u (LENS_u (LENS_u (LENS_u (LENS_u hL (by show (y0).length = (A 30).length; rw [ly0, hL 30 (by decide)]; rfl)) (by show (y1).length = (A 31).length; rw [ly1, hL 31 (by decide)]; rfl)) (by show (y2).length = (A 32).length; rw [ly2, hL 32 (by decide)]; rfl)) (by show (y3).length = (A 33).length; rw [ly3, hL 33 (by decide)]; rfl)) (by show (y4).length = (A 34).length; rw [ly4, hL 34 (by decide)]; rfl)) (by show (y5).length = (A 35).length; rw [ly5, hL 35 (by decide)]; rfl)) (by show (y6).length = (A 36).length; rw [ly6, hL 36 (by decide)]; rfl)) (by show (y7).length = (A 37).length; rw [ly7, hL 37 (by decide)]; rfl)) (wr_len _ _ _)) (by show (l100).length = (A 100).length; rw [k100, hL 100 (by decide)]; rfl)), hR0.2.1, hR0.2.2.1, hR0.2.2.2.1, ⟨⟨(show 0 ≤ F 0 by omega), (show F 0 ≤ 6 by omega)⟩, fun _ => DEED_keep (by decide) (hDE2.1 (by omega)) rfl (fun q h1 h2 => kk q (by omega) (by omega)), fun q => absurd (show (1 : Int) < F 0 from q) (by omega), fun q => absurd (show (2 : Int) < F 0 from q) (by omega), fun q => absurd (show (3 : Int) < F 0 from q) (by omega), fun q => absurd (show (4 : Int) < F 0 from q) (by omega), fun q => absurd (show (5 : Int) < F 0 from q) (by omega)⟩, hR0.2.2.2.2.2.1, hR0.2.2.2.2.2.2.1, hR0.2.2.2.2.2.2.2.1, hR0.2.2.2.2.2.2.2.2.1, (REFU_up hR0.2.2.2.2.2.2.2.2.2 (hL 87 (by decide)) (by decide) (by decide))⟩⟩
      · exfalso
        omega
  · refine R_s (P := inI ((-10) - ya) ∧ True) (f' := (58, [some (vR 1), some (vR 29)], [vI ((-10) - ya)], LAY (u (u (u (u (u (u (u (u (shA A) 30 y0) 31 y1) 32 y2) 33 y3) 34 y4) 35 y5) 36 y6) 37 y7) (u (u (u (shF F) 6 ya) 7 yv) 9 ye), 0, 0)) hc72 5 rfl ⟨⟨by omega, by omega⟩, trivial⟩ ?_
    refine R_reti hc72 rfl rfl ⟨⟨_, rfl⟩, ⟨_, _, rfl, rfl⟩, ?_⟩
    refine R_s (P := True) (f' := (6, [some (vR 88), none], [vI 6, vI (F 0)], LAY (u (u (u (u (u (u (u (u (shA A) 30 y0) 31 y1) 32 y2) 33 y3) 34 y4) 35 y5) 36 y6) 37 y7) (u (u (u (shF F) 6 ya) 7 yv) 9 ye), 0, 0)) hc140 3 rfl trivial ?_
    refine R_ic (t := 16) hc140 rfl rfl (fun (_ : ¬ F 0 = 6) => ?_) (fun (z : ¬ (¬ F 0 = 6)) => absurd (show ¬ F 0 = 6 by omega) z)
    refine R_s (P := True) (f' := (17, [some (vR 88), none], [vR 88], LAY (u (u (u (u (u (u (u (u (shA A) 30 y0) 31 y1) 32 y2) 33 y3) 34 y4) 35 y5) 36 y6) 37 y7) (u (u (u (shF F) 6 ya) 7 yv) 9 ye), 0, 0)) hc140 1 rfl trivial ?_
    refine R_cv hc140 rfl rfl (l_reads (A := (u (u (u (u (u (u (u (u (shA A) 30 y0) 31 y1) 32 y2) 33 y3) 34 y4) 35 y5) 36 y6) 37 y7)) (F := (u (u (u (shF F) 6 ya) 7 yv) 9 ye)) hT1 (hL 18 (by decide)) (hL 100 (by decide)) ⟨(show 0 ≤ F 0 by omega), (show F 0 ≤ 5 by omega)⟩) (fun r G9 hp9 => ?_)
    obtain ⟨l100, zf, za, ze, zv, rfl, rfl, k100, kk0, zab, hm0⟩ := hp9
    have zab : 0 ≤ za ∧ za ≤ F 5 := zab
    have kk : ∀ q : Int, 0 ≤ q → q < 48 * F 0 → rd l100 q = rd (A 100) q := kk0
    have hm : (zf = 1 ∧ fAIL (A 18) (F 5) za) ∨ (zf = 0 ∧ ∃ n : Nat, ze = n ∧ sUCC (A 18) (F 5) n ∧ ∀ j : Nat, j < n → eV (A 18) (F 5) j (sT (A 18) (F 5) j) (rd l100 (48 * F 0 + 8 * j)) (rd l100 (48 * F 0 + 8 * j + 1)) (rd l100 (48 * F 0 + 8 * j + 2)) (rd l100 (48 * F 0 + 8 * j + 3)) (rd l100 (48 * F 0 + 8 * j + 4)) (rd l100 (48 * F 0 + 8 * j + 5) + 1) (rd l100 (48 * F 0 + 8 * j + 6)) (rd l100 (48 * F 0 + 8 * j + 7))) := hm0
    have hx1 : yc = 0 → zf = 1 ∧ za = ya := fun q => by
      have h1 := (hcase.resolve_right (fun z => by omega)).2
      rcases hm with h2 | h2
      · exact ⟨h2.1, fAIL_eq h2.2 h1⟩
      · obtain ⟨n2, -, h3, -⟩ := h2.2
        exact absurd (sUCC_fAIL h3 h1) id
    have hx2 : yc = 1 → zf = 0 := fun q => by
      obtain ⟨n2, -, h3, -⟩ := (hcase.resolve_left (fun z => by omega)).2
      rcases hm with h2 | h2
      · exact absurd (sUCC_fAIL h3 h2.2) id
      · exact h2.1
    refine R_s (f' := (20, [some (vR 88), none], [vI ze], LAY (u (u (u (u (u (u (u (u (u (shA A) 30 y0) 31 y1) 32 y2) 33 y3) 34 y4) 35 y5) 36 y6) 37 y7) 100 l100) (u (u (u (u (u (u (shF F) 6 ya) 7 yv) 9 ye) 26 zf) 25 za) 27 zv), 0, 0)) hc140 0 rfl trivial ?_
    refine R_s (P := True) (f' := (25, [some (vR 88), some (vI ze)], [vI zf], LAY (u (u (u (u (u (u (u (u (u (shA A) 30 y0) 31 y1) 32 y2) 33 y3) 34 y4) 35 y5) 36 y6) 37 y7) 100 l100) (u (u (u (u (u (u (shF F) 6 ya) 7 yv) 9 ye) 26 zf) 25 za) 27 zv), 0, 0)) hc140 3 rfl trivial ?_
    refine R_if (t := 36) hc140 rfl rfl (fun (c107 : zf = 0) => ?_) (fun (c107 : ¬ (zf = 0)) => ?_)
    · exfalso
      omega
    · refine R_s (P := inI ((-10) - za) ∧ True) (f' := (35, [some (vR 88), some (vI ze)], [vI ((-10) - za)], LAY (u (u (u (u (u (u (u (u (u (shA A) 30 y0) 31 y1) 32 y2) 33 y3) 34 y4) 35 y5) 36 y6) 37 y7) 100 l100) (u (u (u (u (u (u (shF F) 6 ya) 7 yv) 9 ye) 26 zf) 25 za) 27 zv), 0, 0)) hc140 4 rfl ⟨⟨by omega, by omega⟩, trivial⟩ ?_
      refine R_reti hc140 rfl rfl ?_
      first
        | (exfalso; omega; done)
        | exact ⟨(by rw [show (-10) - za = (-10) - ya by omega]), (u (u (u (u (u (u (u (u (u A 30 y0) 31 y1) 32 y2) 33 y3) 34 y4) 35 y5) 36 y6) 37 y7) 100 l100), (u (u (u (u (u (u F 6 ya) 7 yv) 9 ye) 26 zf) 25 za) 27 zv), rfl, rfl, ⟨(LENS_u (LENS_u (LENS_u (LENS_u (LENS_u (LENS_u (LENS_u (LENS_u (LENS_u hL (by show (y0).length = (A 30).length; rw [ly0, hL 30 (by decide)]; rfl)) (by show (y1).length = (A 31).length; rw [ly1, hL 31 (by decide)]; rfl)) (by show (y2).length = (A 32).length; rw [ly2, hL 32 (by decide)]; rfl)) (by show (y3).length = (A 33).length; rw [ly3, hL 33 (by decide)]; rfl)) (by show (y4).length = (A 34).length; rw [ly4, hL 34 (by decide)]; rfl)) (by show (y5).length = (A 35).length; rw [ly5, hL 35 (by decide)]; rfl)) (by show (y6).length = (A 36).length; rw [ly6, hL 36 (by decide)]; rfl)) (by show (y7).length = (A 37).length; rw [ly7, hL 37 (by decide)]; rfl)) (by show (l100).length = (A 100).length; rw [k100, hL 100 (by decide)]; rfl)), hR0.2.1, hR0.2.2.1, hR0.2.2.2.1, ⟨⟨(show 0 ≤ F 0 by omega), (show F 0 ≤ 6 by omega)⟩, fun _ => DEED_keep (by decide) (hDE2.1 (by omega)) rfl (fun q h1 h2 => kk q (by omega) (by omega)), fun q => absurd (show (1 : Int) < F 0 from q) (by omega), fun q => absurd (show (2 : Int) < F 0 from q) (by omega), fun q => absurd (show (3 : Int) < F 0 from q) (by omega), fun q => absurd (show (4 : Int) < F 0 from q) (by omega), fun q => absurd (show (5 : Int) < F 0 from q) (by omega)⟩, hR0.2.2.2.2.2.1, hR0.2.2.2.2.2.2.1, hR0.2.2.2.2.2.2.2.1, hR0.2.2.2.2.2.2.2.2.1, (REFU_c hR0.2.2.2.2.2.2.2.2.2)⟩⟩

theorem op_deed_2 {c : Int} {A : Nat → List Int} {F : Nat → Int} (hR : REL c A F) (hc : c < 512) (hd : F 0 = 2) : R 72 (0, L0 72 [vR 1], [], LAY (shA A) (shF F), 0, 0) (fun r G => (∃ x, r = some (vI x)) ∧ (∃ (A1 : Nat → List Int) (F1 : Nat → Int), G = LAY A1 F1 ∧ A1 0 = A 0) ∧ R 140 (0, L0 140 [vR 88], [], G, 0, 0) (fun r2 G2 => r2 = r ∧ ∃ (A' : Nat → List Int) (F' : Nat → Int), G2 = LAY (shA A') (shF F') ∧ A' 0 = A 0 ∧ REL (c + 1) A' F')) := by
  have hR0 := hR
  obtain ⟨hL, hPE, hTH, hTP, hDE, hLE, hNO, hAC, hRO, hRE⟩ := hR
  have h87 : (A 87).length = 9 := hL 87 (by decide)
  have h99 : (A 99).length = 6 := hL 99 (by decide)
  have r2 := REFU_at hRE (k := 2) (by decide) (by decide) hc
  have r3 := REFU_at hRE (k := 3) (by decide) (by decide) hc
  have r4 := REFU_at hRE (k := 4) (by decide) (by decide) hc
  have r5 := REFU_at hRE (k := 5) (by decide) (by decide) hc
  have r6 := REFU_at hRE (k := 6) (by decide) (by decide) hc
  have r7 := REFU_at hRE (k := 7) (by decide) (by decide) hc
  have r8 := REFU_at hRE (k := 8) (by decide) (by decide) hc
  obtain ⟨t1, t2, t3, t4, t5, t6⟩ := hTH
  obtain ⟨p1, p2, p3, p4, p5, p6⟩ := hPE
  have hT1 := hR0.2.2.2.1
  have hDE2 := hR0.2.2.2.2.1.2
  have x0 : (A 39).length = 6 := hL 39 (by decide)
  have x1 : (A 40).length = 6 := hL 40 (by decide)
  have x2 : (A 41).length = 6 := hL 41 (by decide)
  have x3 : (A 42).length = 6 := hL 42 (by decide)
  have x4 : (A 43).length = 6 := hL 43 (by decide)
  have x5 : (A 44).length = 6 := hL 44 (by decide)
  have x6 : (A 45).length = 6 := hL 45 (by decide)
  have x7 : (A 46).length = 6 := hL 46 (by decide)
  refine R_s (P := True) (f' := (6, [some (vR 1), none], [vI 6, vI (F 0)], LAY (shA A) (shF F), 0, 0)) hc72 3 rfl trivial ?_
  refine R_ic (t := 16) hc72 rfl rfl (fun (_ : F 0 < 6) => ?_) (fun (z : ¬ (F 0 < 6)) => absurd (show F 0 < 6 by omega) z)
  refine R_s (P := True) (f' := (24, [some (vR 1), none], [vI (F 0), vR 19], LAY (shA A) (shF F), 0, 0)) hc72 4 rfl trivial ?_
  rw [hd]
  refine R_s (P := (0 ≤ (2 : Int) ∧ (2 : Int) < (([some 20, some 29, some 38, some 47, some 56, some 65] : List (Option Nat)).length : Int)) ∧ True) (f' := (42, [some (vR 1), some (vR 38)], [vR 38, vR 17], LAY (shA A) (shF F), 0, 0)) hc72 7 rfl ⟨(by decide), trivial⟩ ?_
  refine R_cv hc72 rfl rfl (l_rdeed2 (A := shA A) (F := shF F) (LENS_sh hL) hT1) (fun r G9 hp9 => ?_)
  obtain ⟨yc, y0, y1, y2, y3, y4, y5, y6, y7, ya, yv, ye, rfl, rfl, ly0, ly1, ly2, ly3, ly4, ly5, ly6, ly7, yab, hcase0⟩ := hp9
  have yab : 0 ≤ ya ∧ ya ≤ F 5 := yab
  have hcase : (yc = 0 ∧ fAIL (A 18) (F 5) ya) ∨ (yc = 1 ∧ ∃ n : Nat, ye = n ∧ sUCC (A 18) (F 5) n ∧ ∀ j : Nat, j < n → eV (A 18) (F 5) j (sT (A 18) (F 5) j) (rd y0 j) (rd y1 j) (rd y2 j) (rd y3 j) (rd y4 j) (rd y5 j) (rd y6 j) (rd y7 j)) := hcase0
  have yc1 : yc = 0 ∨ yc = 1 := by omega
  refine R_s (f' := (45, [some (vR 1), some (vR 38)], [vI yc], LAY (u (u (u (u (u (u (u (u (shA A) 39 y0) 40 y1) 41 y2) 42 y3) 43 y4) 44 y5) 45 y6) 46 y7) (u (u (u (shF F) 6 ya) 7 yv) 10 ye), 0, 0)) hc72 0 rfl trivial ?_
  refine R_if (t := 59) hc72 rfl rfl (fun (c2 : ¬ yc = 0) => ?_) (fun (c2 : ¬ (¬ yc = 0)) => ?_)
  · obtain ⟨n, hyn, hsu, hev⟩ := (hcase.resolve_left (fun z => by omega)).2
    have hn6 : 1 ≤ n ∧ n ≤ 6 := by
      obtain ⟨i0, e0, h6, -⟩ := hsu
      omega
    refine R_s (P := True) (f' := (67, [some (vR 1), some (vR 38)], [vI (F 3), vR 38], LAY (u (u (u (u (u (u (u (u (shA A) 39 y0) 40 y1) 41 y2) 42 y3) 43 y4) 44 y5) 45 y6) 46 y7) (u (u (u (shF F) 6 ya) 7 yv) 10 ye), 0, 0)) hc72 4 rfl trivial ?_
    refine R_cv hc72 rfl rfl (l_sound2 (A := (u (u (u (u (u (u (u (u (shA A) 39 y0) 40 y1) 41 y2) 42 y3) 43 y4) 44 y5) 45 y6) 46 y7)) (F := (u (u (u (shF F) 6 ya) 7 yv) 10 ye)) (LENS_u (LENS_u (LENS_u (LENS_u (LENS_u (LENS_u (LENS_u (LENS_u (LENS_sh hL) (by show y0.length = (A 39).length; omega)) (by show y1.length = (A 40).length; omega)) (by show y2.length = (A 41).length; omega)) (by show y3.length = (A 42).length; omega)) (by show y4.length = (A 43).length; omega)) (by show y5.length = (A 44).length; omega)) (by show y6.length = (A 45).length; omega)) (by show y7.length = (A 46).length; omega)) (e := n) hn6.2 hyn (fun j hj q => ((eV_num (hev j hj)).1 (.inr (.inl q))))) (fun r G9 hp9 => ?_)
    obtain ⟨yd, rfl, rfl, hsd0⟩ := hp9
    have hsd : (yd = 1 ∧ sOUND (fun j => rd y0 j) (fun j => rd y1 j) (fun j => rd y2 j) (F 3) n) ∨ (yd = 0 ∧ ¬ sOUND (fun j => rd y0 j) (fun j => rd y1 j) (fun j => rd y2 j) (F 3) n) := hsd0
    have yd1 : yd = 0 ∨ yd = 1 := by omega
    refine R_s (f' := (70, [some (vR 1), some (vR 38)], [vI yd], LAY (u (u (u (u (u (u (u (u (shA A) 39 y0) 40 y1) 41 y2) 42 y3) 43 y4) 44 y5) 45 y6) 46 y7) (u (u (u (shF F) 6 ya) 7 yv) 10 ye), 0, 0)) hc72 0 rfl trivial ?_
    refine R_if (t := 80) hc72 rfl rfl (fun (c3 : ¬ yd = 0) => ?_) (fun (c3 : ¬ (¬ yd = 0)) => ?_)
    · refine R_s (P := inI ((F 0) + 1) ∧ inI (((F 0) + 1) - 1) ∧ True) (f' := (104, [some (vR 1), some (vR 38)], [vI (((F 0) + 1) - 1)], LAY (u (u (u (u (u (u (u (u (shA A) 39 y0) 40 y1) 41 y2) 42 y3) 43 y4) 44 y5) 45 y6) 46 y7) (u (u (u (u (u (shF F) 6 ya) 7 yv) 10 ye) 5 0) 0 ((F 0) + 1)), 0, 0)) hc72 14 rfl ⟨⟨by omega, by omega⟩, ⟨by omega, by omega⟩, trivial⟩ ?_
      refine R_reti hc72 rfl rfl ⟨⟨_, rfl⟩, ⟨_, _, rfl, rfl⟩, ?_⟩
      refine R_s (P := True) (f' := (6, [some (vR 88), none], [vI 6, vI (F 0)], LAY (u (u (u (u (u (u (u (u (shA A) 39 y0) 40 y1) 41 y2) 42 y3) 43 y4) 44 y5) 45 y6) 46 y7) (u (u (u (u (u (shF F) 6 ya) 7 yv) 10 ye) 5 0) 0 ((F 0) + 1)), 0, 0)) hc140 3 rfl trivial ?_
      refine R_ic (t := 16) hc140 rfl rfl (fun (_ : ¬ F 0 = 6) => ?_) (fun (z : ¬ (¬ F 0 = 6)) => absurd (show ¬ F 0 = 6 by omega) z)
      refine R_s (P := True) (f' := (17, [some (vR 88), none], [vR 88], LAY (u (u (u (u (u (u (u (u (shA A) 39 y0) 40 y1) 41 y2) 42 y3) 43 y4) 44 y5) 45 y6) 46 y7) (u (u (u (u (u (shF F) 6 ya) 7 yv) 10 ye) 5 0) 0 ((F 0) + 1)), 0, 0)) hc140 1 rfl trivial ?_
      refine R_cv hc140 rfl rfl (l_reads (A := (u (u (u (u (u (u (u (u (shA A) 39 y0) 40 y1) 41 y2) 42 y3) 43 y4) 44 y5) 45 y6) 46 y7)) (F := (u (u (u (u (u (shF F) 6 ya) 7 yv) 10 ye) 5 0) 0 ((F 0) + 1))) hT1 (hL 18 (by decide)) (hL 100 (by decide)) ⟨(show 0 ≤ F 0 by omega), (show F 0 ≤ 5 by omega)⟩) (fun r G9 hp9 => ?_)
      obtain ⟨l100, zf, za, ze, zv, rfl, rfl, k100, kk0, zab, hm0⟩ := hp9
      have zab : 0 ≤ za ∧ za ≤ F 5 := zab
      have kk : ∀ q : Int, 0 ≤ q → q < 48 * F 0 → rd l100 q = rd (A 100) q := kk0
      have hm : (zf = 1 ∧ fAIL (A 18) (F 5) za) ∨ (zf = 0 ∧ ∃ n : Nat, ze = n ∧ sUCC (A 18) (F 5) n ∧ ∀ j : Nat, j < n → eV (A 18) (F 5) j (sT (A 18) (F 5) j) (rd l100 (48 * F 0 + 8 * j)) (rd l100 (48 * F 0 + 8 * j + 1)) (rd l100 (48 * F 0 + 8 * j + 2)) (rd l100 (48 * F 0 + 8 * j + 3)) (rd l100 (48 * F 0 + 8 * j + 4)) (rd l100 (48 * F 0 + 8 * j + 5) + 1) (rd l100 (48 * F 0 + 8 * j + 6)) (rd l100 (48 * F 0 + 8 * j + 7))) := hm0
      have hx1 : yc = 0 → zf = 1 ∧ za = ya := fun q => by
        have h1 := (hcase.resolve_right (fun z => by omega)).2
        rcases hm with h2 | h2
        · exact ⟨h2.1, fAIL_eq h2.2 h1⟩
        · obtain ⟨n2, -, h3, -⟩ := h2.2
          exact absurd (sUCC_fAIL h3 h1) id
      have hx2 : yc = 1 → zf = 0 := fun q => by
        obtain ⟨n2, -, h3, -⟩ := (hcase.resolve_left (fun z => by omega)).2
        rcases hm with h2 | h2
        · exact absurd (sUCC_fAIL h3 h2.2) id
        · exact h2.1
      refine R_s (f' := (20, [some (vR 88), none], [vI ze], LAY (u (u (u (u (u (u (u (u (u (shA A) 39 y0) 40 y1) 41 y2) 42 y3) 43 y4) 44 y5) 45 y6) 46 y7) 100 l100) (u (u (u (u (u (u (u (u (shF F) 6 ya) 7 yv) 10 ye) 5 0) 0 ((F 0) + 1)) 26 zf) 25 za) 27 zv), 0, 0)) hc140 0 rfl trivial ?_
      refine R_s (P := True) (f' := (25, [some (vR 88), some (vI ze)], [vI zf], LAY (u (u (u (u (u (u (u (u (u (shA A) 39 y0) 40 y1) 41 y2) 42 y3) 43 y4) 44 y5) 45 y6) 46 y7) 100 l100) (u (u (u (u (u (u (u (u (shF F) 6 ya) 7 yv) 10 ye) 5 0) 0 ((F 0) + 1)) 26 zf) 25 za) 27 zv), 0, 0)) hc140 3 rfl trivial ?_
      refine R_if (t := 36) hc140 rfl rfl (fun (c105 : zf = 0) => ?_) (fun (c105 : ¬ (zf = 0)) => ?_)
      · obtain ⟨n2, hzn, hsu2, hem⟩ := (hm.resolve_left (fun z => by omega)).2
        have en : n2 = n := sUCC_eq hsu2 hsu
        rw [en] at hzn hem
        refine R_s (P := True) (f' := (38, [some (vR 88), some (vI ze)], [vI ze, vR 88], LAY (u (u (u (u (u (u (u (u (u (shA A) 39 y0) 40 y1) 41 y2) 42 y3) 43 y4) 44 y5) 45 y6) 46 y7) 100 l100) (u (u (u (u (u (u (u (u (shF F) 6 ya) 7 yv) 10 ye) 5 0) 0 ((F 0) + 1)) 26 zf) 25 za) 27 zv), 0, 0)) hc140 2 rfl trivial ?_
        refine R_cv hc140 rfl rfl (l_good (A := (u (u (u (u (u (u (u (u (u (shA A) 39 y0) 40 y1) 41 y2) 42 y3) 43 y4) 44 y5) 45 y6) 46 y7) 100 l100)) (F := (u (u (u (u (u (u (u (u (shF F) 6 ya) 7 yv) 10 ye) 5 0) 0 ((F 0) + 1)) 26 zf) 25 za) 27 zv)) (by show l100.length = 288; exact k100) ⟨(show 0 ≤ F 0 by omega), (show F 0 ≤ 5 by omega)⟩ ⟨p1, p2⟩ (n := n) hzn hn6.2 (fun j hj => ⟨fun q => (eV_num (hem j hj)).1 (.inr (.inl q)), (eV_num (hem j hj)).2⟩)) (fun r G9 hp9 => ?_)
        obtain ⟨zd, rfl, rfl, hgd0⟩ := hp9
        have hgd : (zd = 1 ∧ sOUND (fun j => rd l100 (48 * F 0 + 8 * j)) (fun j => rd l100 (48 * F 0 + 8 * j + 1)) (fun j => rd l100 (48 * F 0 + 8 * j + 2)) (F 3) n) ∨ (zd = 0 ∧ ¬ sOUND (fun j => rd l100 (48 * F 0 + 8 * j)) (fun j => rd l100 (48 * F 0 + 8 * j + 1)) (fun j => rd l100 (48 * F 0 + 8 * j + 2)) (F 3) n) := hgd0
        have hso : sOUND (fun j => rd y0 j) (fun j => rd y1 j) (fun j => rd y2 j) (F 3) n ↔ sOUND (fun j => rd l100 (48 * F 0 + 8 * j)) (fun j => rd l100 (48 * F 0 + 8 * j + 1)) (fun j => rd l100 (48 * F 0 + 8 * j + 2)) (F 3) n := sOUND_eq (fun j hj => by
          have z1 := hev j hj
          have z2 := hem j hj
          (try dsimp only)
          refine ⟨by rw [z1.1, z2.1], fun q => ?_⟩
          rcases q with q | q
          · have w : eK (A 18) (F 5) j (sT (A 18) (F 5) j) = 1 := z1.1.symm.trans q
            have w2 : rd l100 (48 * F 0 + 8 * j) = 1 := by rw [z2.1]; exact w
            exact ⟨by rw [(z1.2.2.1 q).1, (z2.2.2.1 w2).1], by rw [(z1.2.2.1 q).2.1, (z2.2.2.1 w2).2.1]⟩
          · have w : eK (A 18) (F 5) j (sT (A 18) (F 5) j) = 2 := z1.1.symm.trans q
            have w2 : rd l100 (48 * F 0 + 8 * j) = 2 := by rw [z2.1]; exact w
            exact ⟨by rw [(z1.2.2.2.1 q).1, (z2.2.2.2.1 w2).1], by rw [(z1.2.2.2.1 q).2, (z2.2.2.2.1 w2).2]⟩)
        have hx3 : zd = yd := by
          rcases hsd with h1 | h1 <;> rcases hgd with h2 | h2
          · omega
          · exact absurd (hso.mp h1.2) h2.2
          · exact absurd (hso.mpr h2.2) h1.2
          · omega
        refine R_s (f' := (41, [some (vR 88), some (vI ze)], [vI zd], LAY (u (u (u (u (u (u (u (u (u (shA A) 39 y0) 40 y1) 41 y2) 42 y3) 43 y4) 44 y5) 45 y6) 46 y7) 100 l100) (u (u (u (u (u (u (u (u (shF F) 6 ya) 7 yv) 10 ye) 5 0) 0 ((F 0) + 1)) 26 zf) 25 za) 27 zv), 0, 0)) hc140 0 rfl trivial ?_
        refine R_if (t := 51) hc140 rfl rfl (fun (c106 : ¬ zd = 0) => ?_) (fun (c106 : ¬ (¬ zd = 0)) => ?_)
        · refine R_s (P := (0 ≤ F 0 ∧ F 0 < ((A 99).length : Int)) ∧ inI ((F 0) + 1) ∧ inI (((F 0) + 1) - 1) ∧ True) (f' := (82, [some (vR 88), some (vI ze)], [vI (((F 0) + 1) - 1)], LAY (u (u (u (u (u (u (u (u (u (u (shA A) 39 y0) 40 y1) 41 y2) 42 y3) 43 y4) 44 y5) 45 y6) 46 y7) 100 l100) 99 (wr (A 99) (F 0) ze)) (u (u (u (u (u (u (u (u (u (u (shF F) 6 ya) 7 yv) 10 ye) 5 0) 0 ((F 0) + 1)) 26 zf) 25 za) 27 zv) 24 0) 21 ((F 0) + 1)), 0, 0)) hc140 19 rfl ⟨⟨by omega, by omega⟩, ⟨by omega, by omega⟩, ⟨by omega, by omega⟩, trivial⟩ ?_
          refine R_reti hc140 rfl rfl ?_
          first
            | (exfalso; omega; done)
            | exact ⟨rfl, (u (u (u (u (u (u (u (u (u (u A 39 y0) 40 y1) 41 y2) 42 y3) 43 y4) 44 y5) 45 y6) 46 y7) 100 l100) 99 (wr (A 99) (F 0) ze)), (u (u (u (u (u (u (u (u F 6 ya) 7 yv) 10 ye) 5 0) 0 ((F 0) + 1)) 26 zf) 25 za) 27 zv), rfl, rfl, ⟨(LENS_u (LENS_u (LENS_u (LENS_u (LENS_u (LENS_u (LENS_u (LENS_u (LENS_u (LENS_u hL (by show (y0).length = (A 39).length; rw [ly0, hL 39 (by decide)]; rfl)) (by show (y1).length = (A 40).length; rw [ly1, hL 40 (by decide)]; rfl)) (by show (y2).length = (A 41).length; rw [ly2, hL 41 (by decide)]; rfl)) (by show (y3).length = (A 42).length; rw [ly3, hL 42 (by decide)]; rfl)) (by show (y4).length = (A 43).length; rw [ly4, hL 43 (by decide)]; rfl)) (by show (y5).length = (A 44).length; rw [ly5, hL 44 (by decide)]; rfl)) (by show (y6).length = (A 45).length; rw [ly6, hL 45 (by decide)]; rfl)) (by show (y7).length = (A 46).length; rw [ly7, hL 46 (by decide)]; rfl)) (by show (l100).length = (A 100).length; rw [k100, hL 100 (by decide)]; rfl)) (by show (wr (A 99) (F 0) ze).length = (A 99).length; simp only [wr_len])), hR0.2.1, hR0.2.2.1, ⟨(show (0 : Int) ≤ 0 by decide), (show (0 : Int) ≤ 120 by decide)⟩, ⟨⟨(show 0 ≤ F 0 + 1 by omega), (show F 0 + 1 ≤ 6 by omega)⟩, fun _ => DEED_keep (by decide) (hDE2.1 (by omega)) (by show rd (wr (A 99) (F 0) ze) 0 = rd (A 99) 0; exact rd_wr_n (by omega) (by decide) (by omega)) (fun q h1 h2 => kk q (by omega) (by omega)), fun _ => DEED_keep (by decide) (hDE2.2.1 (by omega)) (by show rd (wr (A 99) (F 0) ze) 1 = rd (A 99) 1; exact rd_wr_n (by omega) (by decide) (by omega)) (fun q h1 h2 => kk q (by omega) (by omega)), fun _ => by
                  have z := DEED_new (mE := wr (A 99) (F 0) ze) (d := 2) hsu hev (by rw [hd] at hem; exact hem) (by rw [hd, rd_wr_s (by omega) (by rw [hL 99 (by decide)]; decide)]; exact hzn) (hsd.resolve_right (fun z => by omega)).2
                  rw [← hyn] at z
                  exact z, fun q => absurd (show (3 : Int) < F 0 + 1 from q) (by omega), fun q => absurd (show (4 : Int) < F 0 + 1 from q) (by omega), fun q => absurd (show (5 : Int) < F 0 + 1 from q) (by omega)⟩, hR0.2.2.2.2.2.1, hR0.2.2.2.2.2.2.1, hR0.2.2.2.2.2.2.2.1, hR0.2.2.2.2.2.2.2.2.1, (REFU_c hR0.2.2.2.2.2.2.2.2.2)⟩⟩
        · exact absurd (show ¬ zd = 0 by rw [hx3]; assumption) (by assumption)
      · exfalso
        omega
    · refine R_s (P := True) (f' := (76, [some (vR 1), some (vR 38)], [vI (-7), vR 1], LAY (u (u (u (u (u (u (u (u (shA A) 39 y0) 40 y1) 41 y2) 42 y3) 43 y4) 44 y5) 45 y6) 46 y7) (u (u (u (shF F) 6 ya) 7 yv) 10 ye), 0, 0)) hc72 2 rfl trivial ?_
      refine R_cv hc72 rfl rfl ?_ (fun r G h => h)
      refine R_s (P := True) (f' := (3, [some (vR 1), some (vI (-7))], [vI (-2), vI (-7)], LAY (u (u (u (u (u (u (u (u (shA A) 39 y0) 40 y1) 41 y2) 42 y3) 43 y4) 44 y5) 45 y6) 46 y7) (u (u (u (shF F) 6 ya) 7 yv) 10 ye), 0, 0)) hc93 2 rfl trivial ?_
      refine R_ic (t := 23) hc93 rfl rfl (fun (z : (-2) < (-7)) => absurd z (by decide)) (fun (_ : ¬ ((-2) < (-7))) => ?_)
      refine R_s (P := True) (f' := (9, [some (vR 1), some (vI (-7))], [vI (-8), vI (-7)], LAY (u (u (u (u (u (u (u (u (shA A) 39 y0) 40 y1) 41 y2) 42 y3) 43 y4) 44 y5) 45 y6) 46 y7) (u (u (u (shF F) 6 ya) 7 yv) 10 ye), 0, 0)) hc93 2 rfl trivial ?_
      refine R_ic (t := 23) hc93 rfl rfl (fun (z : (-7) < (-8)) => absurd z (by decide)) (fun (_ : ¬ ((-7) < (-8))) => ?_)
      refine R_s (P := inI 7 ∧ (0 ≤ 7 ∧ 7 < ((A 87).length : Int)) ∧ inI ((rd (A 87) 7) + 1) ∧ (0 ≤ 7 ∧ 7 < ((A 87).length : Int)) ∧ True) (f' := (24, [some (vR 1), some (vI (-7))], [vI (-7)], LAY (u (u (u (u (u (u (u (u (u (shA A) 39 y0) 40 y1) 41 y2) 42 y3) 43 y4) 44 y5) 45 y6) 46 y7) 87 (wr (A 87) 7 ((rd (A 87) 7) + 1))) (u (u (u (shF F) 6 ya) 7 yv) 10 ye), 0, 0)) hc93 10 rfl ⟨⟨by omega, by omega⟩, ⟨by omega, by omega⟩, ⟨by omega, by omega⟩, ⟨by omega, by omega⟩, trivial⟩ ?_
      refine R_reti hc93 rfl rfl ?_
      refine R_s (f' := (79, [some (vR 1), some (vR 38)], [vI (-7)], LAY (u (u (u (u (u (u (u (u (u (shA A) 39 y0) 40 y1) 41 y2) 42 y3) 43 y4) 44 y5) 45 y6) 46 y7) 87 (wr (A 87) 7 ((rd (A 87) 7) + 1))) (u (u (u (shF F) 6 ya) 7 yv) 10 ye), 0, 0)) hc72 0 rfl trivial ?_
      refine R_reti hc72 rfl rfl ⟨⟨_, rfl⟩, ⟨_, _, rfl, rfl⟩, ?_⟩
      refine R_s (P := True) (f' := (6, [some (vR 88), none], [vI 6, vI (F 0)], LAY (u (u (u (u (u (u (u (u (u (shA A) 39 y0) 40 y1) 41 y2) 42 y3) 43 y4) 44 y5) 45 y6) 46 y7) 87 (wr (A 87) 7 ((rd (A 87) 7) + 1))) (u (u (u (shF F) 6 ya) 7 yv) 10 ye), 0, 0)) hc140 3 rfl trivial ?_
      refine R_ic (t := 16) hc140 rfl rfl (fun (_ : ¬ F 0 = 6) => ?_) (fun (z : ¬ (¬ F 0 = 6)) => absurd (show ¬ F 0 = 6 by omega) z)
      refine R_s (P := True) (f' := (17, [some (vR 88), none], [vR 88], LAY (u (u (u (u (u (u (u (u (u (shA A) 39 y0) 40 y1) 41 y2) 42 y3) 43 y4) 44 y5) 45 y6) 46 y7) 87 (wr (A 87) 7 ((rd (A 87) 7) + 1))) (u (u (u (shF F) 6 ya) 7 yv) 10 ye), 0, 0)) hc140 1 rfl trivial ?_
      refine R_cv hc140 rfl rfl (l_reads (A := (u (u (u (u (u (u (u (u (u (shA A) 39 y0) 40 y1) 41 y2) 42 y3) 43 y4) 44 y5) 45 y6) 46 y7) 87 (wr (A 87) 7 ((rd (A 87) 7) + 1)))) (F := (u (u (u (shF F) 6 ya) 7 yv) 10 ye)) hT1 (hL 18 (by decide)) (hL 100 (by decide)) ⟨(show 0 ≤ F 0 by omega), (show F 0 ≤ 5 by omega)⟩) (fun r G9 hp9 => ?_)
      obtain ⟨l100, zf, za, ze, zv, rfl, rfl, k100, kk0, zab, hm0⟩ := hp9
      have zab : 0 ≤ za ∧ za ≤ F 5 := zab
      have kk : ∀ q : Int, 0 ≤ q → q < 48 * F 0 → rd l100 q = rd (A 100) q := kk0
      have hm : (zf = 1 ∧ fAIL (A 18) (F 5) za) ∨ (zf = 0 ∧ ∃ n : Nat, ze = n ∧ sUCC (A 18) (F 5) n ∧ ∀ j : Nat, j < n → eV (A 18) (F 5) j (sT (A 18) (F 5) j) (rd l100 (48 * F 0 + 8 * j)) (rd l100 (48 * F 0 + 8 * j + 1)) (rd l100 (48 * F 0 + 8 * j + 2)) (rd l100 (48 * F 0 + 8 * j + 3)) (rd l100 (48 * F 0 + 8 * j + 4)) (rd l100 (48 * F 0 + 8 * j + 5) + 1) (rd l100 (48 * F 0 + 8 * j + 6)) (rd l100 (48 * F 0 + 8 * j + 7))) := hm0
      have hx1 : yc = 0 → zf = 1 ∧ za = ya := fun q => by
        have h1 := (hcase.resolve_right (fun z => by omega)).2
        rcases hm with h2 | h2
        · exact ⟨h2.1, fAIL_eq h2.2 h1⟩
        · obtain ⟨n2, -, h3, -⟩ := h2.2
          exact absurd (sUCC_fAIL h3 h1) id
      have hx2 : yc = 1 → zf = 0 := fun q => by
        obtain ⟨n2, -, h3, -⟩ := (hcase.resolve_left (fun z => by omega)).2
        rcases hm with h2 | h2
        · exact absurd (sUCC_fAIL h3 h2.2) id
        · exact h2.1
      refine R_s (f' := (20, [some (vR 88), none], [vI ze], LAY (u (u (u (u (u (u (u (u (u (u (shA A) 39 y0) 40 y1) 41 y2) 42 y3) 43 y4) 44 y5) 45 y6) 46 y7) 87 (wr (A 87) 7 ((rd (A 87) 7) + 1))) 100 l100) (u (u (u (u (u (u (shF F) 6 ya) 7 yv) 10 ye) 26 zf) 25 za) 27 zv), 0, 0)) hc140 0 rfl trivial ?_
      refine R_s (P := True) (f' := (25, [some (vR 88), some (vI ze)], [vI zf], LAY (u (u (u (u (u (u (u (u (u (u (shA A) 39 y0) 40 y1) 41 y2) 42 y3) 43 y4) 44 y5) 45 y6) 46 y7) 87 (wr (A 87) 7 ((rd (A 87) 7) + 1))) 100 l100) (u (u (u (u (u (u (shF F) 6 ya) 7 yv) 10 ye) 26 zf) 25 za) 27 zv), 0, 0)) hc140 3 rfl trivial ?_
      refine R_if (t := 36) hc140 rfl rfl (fun (c107 : zf = 0) => ?_) (fun (c107 : ¬ (zf = 0)) => ?_)
      · obtain ⟨n2, hzn, hsu2, hem⟩ := (hm.resolve_left (fun z => by omega)).2
        have en : n2 = n := sUCC_eq hsu2 hsu
        rw [en] at hzn hem
        refine R_s (P := True) (f' := (38, [some (vR 88), some (vI ze)], [vI ze, vR 88], LAY (u (u (u (u (u (u (u (u (u (u (shA A) 39 y0) 40 y1) 41 y2) 42 y3) 43 y4) 44 y5) 45 y6) 46 y7) 87 (wr (A 87) 7 ((rd (A 87) 7) + 1))) 100 l100) (u (u (u (u (u (u (shF F) 6 ya) 7 yv) 10 ye) 26 zf) 25 za) 27 zv), 0, 0)) hc140 2 rfl trivial ?_
        refine R_cv hc140 rfl rfl (l_good (A := (u (u (u (u (u (u (u (u (u (u (shA A) 39 y0) 40 y1) 41 y2) 42 y3) 43 y4) 44 y5) 45 y6) 46 y7) 87 (wr (A 87) 7 ((rd (A 87) 7) + 1))) 100 l100)) (F := (u (u (u (u (u (u (shF F) 6 ya) 7 yv) 10 ye) 26 zf) 25 za) 27 zv)) (by show l100.length = 288; exact k100) ⟨(show 0 ≤ F 0 by omega), (show F 0 ≤ 5 by omega)⟩ ⟨p1, p2⟩ (n := n) hzn hn6.2 (fun j hj => ⟨fun q => (eV_num (hem j hj)).1 (.inr (.inl q)), (eV_num (hem j hj)).2⟩)) (fun r G9 hp9 => ?_)
        obtain ⟨zd, rfl, rfl, hgd0⟩ := hp9
        have hgd : (zd = 1 ∧ sOUND (fun j => rd l100 (48 * F 0 + 8 * j)) (fun j => rd l100 (48 * F 0 + 8 * j + 1)) (fun j => rd l100 (48 * F 0 + 8 * j + 2)) (F 3) n) ∨ (zd = 0 ∧ ¬ sOUND (fun j => rd l100 (48 * F 0 + 8 * j)) (fun j => rd l100 (48 * F 0 + 8 * j + 1)) (fun j => rd l100 (48 * F 0 + 8 * j + 2)) (F 3) n) := hgd0
        have hso : sOUND (fun j => rd y0 j) (fun j => rd y1 j) (fun j => rd y2 j) (F 3) n ↔ sOUND (fun j => rd l100 (48 * F 0 + 8 * j)) (fun j => rd l100 (48 * F 0 + 8 * j + 1)) (fun j => rd l100 (48 * F 0 + 8 * j + 2)) (F 3) n := sOUND_eq (fun j hj => by
          have z1 := hev j hj
          have z2 := hem j hj
          (try dsimp only)
          refine ⟨by rw [z1.1, z2.1], fun q => ?_⟩
          rcases q with q | q
          · have w : eK (A 18) (F 5) j (sT (A 18) (F 5) j) = 1 := z1.1.symm.trans q
            have w2 : rd l100 (48 * F 0 + 8 * j) = 1 := by rw [z2.1]; exact w
            exact ⟨by rw [(z1.2.2.1 q).1, (z2.2.2.1 w2).1], by rw [(z1.2.2.1 q).2.1, (z2.2.2.1 w2).2.1]⟩
          · have w : eK (A 18) (F 5) j (sT (A 18) (F 5) j) = 2 := z1.1.symm.trans q
            have w2 : rd l100 (48 * F 0 + 8 * j) = 2 := by rw [z2.1]; exact w
            exact ⟨by rw [(z1.2.2.2.1 q).1, (z2.2.2.2.1 w2).1], by rw [(z1.2.2.2.1 q).2, (z2.2.2.2.1 w2).2]⟩)
        have hx3 : zd = yd := by
          rcases hsd with h1 | h1 <;> rcases hgd with h2 | h2
          · omega
          · exact absurd (hso.mp h1.2) h2.2
          · exact absurd (hso.mpr h2.2) h1.2
          · omega
        refine R_s (f' := (41, [some (vR 88), some (vI ze)], [vI zd], LAY (u (u (u (u (u (u (u (u (u (u (shA A) 39 y0) 40 y1) 41 y2) 42 y3) 43 y4) 44 y5) 45 y6) 46 y7) 87 (wr (A 87) 7 ((rd (A 87) 7) + 1))) 100 l100) (u (u (u (u (u (u (shF F) 6 ya) 7 yv) 10 ye) 26 zf) 25 za) 27 zv), 0, 0)) hc140 0 rfl trivial ?_
        refine R_if (t := 51) hc140 rfl rfl (fun (c108 : ¬ zd = 0) => ?_) (fun (c108 : ¬ (¬ zd = 0)) => ?_)
        · exact absurd (show ¬ yd = 0 by rw [← hx3]; assumption) (by assumption)
        · refine R_s (P := True) (f' := (47, [some (vR 88), some (vI ze)], [vI (-7), vR 88], LAY (u (u (u (u (u (u (u (u (u (u (shA A) 39 y0) 40 y1) 41 y2) 42 y3) 43 y4) 44 y5) 45 y6) 46 y7) 87 (wr (A 87) 7 ((rd (A 87) 7) + 1))) 100 l100) (u (u (u (u (u (u (shF F) 6 ya) 7 yv) 10 ye) 26 zf) 25 za) 27 zv), 0, 0)) hc140 2 rfl trivial ?_
          refine R_cv hc140 rfl rfl ?_ (fun r G h => h)
          refine R_s (P := inI 7 ∧ (0 ≤ 7 ∧ 7 < ((A 87).length : Int)) ∧ inI ((rd (A 87) 7) + 1) ∧ (0 ≤ 7 ∧ 7 < ((A 87).length : Int)) ∧ True) (f' := (12, [some (vR 88), some (vI (-7))], [vI (-7)], LAY (u (u (u (u (u (u (u (u (u (u (u (shA A) 39 y0) 40 y1) 41 y2) 42 y3) 43 y4) 44 y5) 45 y6) 46 y7) 87 (wr (A 87) 7 ((rd (A 87) 7) + 1))) 100 l100) 89 (wr (A 87) 7 ((rd (A 87) 7) + 1))) (u (u (u (u (u (u (shF F) 6 ya) 7 yv) 10 ye) 26 zf) 25 za) 27 zv), 0, 0)) hc105 10 rfl ⟨⟨by omega, by omega⟩, ⟨by omega, by omega⟩, ⟨by omega, by omega⟩, ⟨by omega, by omega⟩, trivial⟩ ?_
          refine R_reti hc105 rfl rfl ?_
          refine R_s (f' := (50, [some (vR 88), some (vI ze)], [vI (-7)], LAY (u (u (u (u (u (u (u (u (u (u (u (shA A) 39 y0) 40 y1) 41 y2) 42 y3) 43 y4) 44 y5) 45 y6) 46 y7) 87 (wr (A 87) 7 ((rd (A 87) 7) + 1))) 100 l100) 89 (wr (A 87) 7 ((rd (A 87) 7) + 1))) (u (u (u (u (u (u (shF F) 6 ya) 7 yv) 10 ye) 26 zf) 25 za) 27 zv), 0, 0)) hc140 0 rfl trivial ?_
          refine R_reti hc140 rfl rfl ?_
          first
            | (exfalso; omega; done)
            | exact ⟨rfl, (u (u (u (u (u (u (u (u (u (u A 39 y0) 40 y1) 41 y2) 42 y3) 43 y4) 44 y5) 45 y6) 46 y7) 87 (wr (A 87) 7 ((rd (A 87) 7) + 1))) 100 l100), (u (u (u (u (u (u F 6 ya) 7 yv) 10 ye) 26 zf) 25 za) 27 zv), rfl, rfl, ⟨(LENS_u (LENS_u (LENS_u (LENS_u (LENS_u (LENS_u (LENS_u (LENS_u (LENS_u (LENS_u hL (by show (y0).length = (A 39).length; rw [ly0, hL 39 (by decide)]; rfl)) (by show (y1).length = (A 40).length; rw [ly1, hL 40 (by decide)]; rfl)) (by show (y2).length = (A 41).length; rw [ly2, hL 41 (by decide)]; rfl)) (by show (y3).length = (A 42).length; rw [ly3, hL 42 (by decide)]; rfl)) (by show (y4).length = (A 43).length; rw [ly4, hL 43 (by decide)]; rfl)) (by show (y5).length = (A 44).length; rw [ly5, hL 44 (by decide)]; rfl)) (by show (y6).length = (A 45).length; rw [ly6, hL 45 (by decide)]; rfl)) (by show (y7).length = (A 46).length; rw [ly7, hL 46 (by decide)]; rfl)) (wr_len _ _ _)) (by show (l100).length = (A 100).length; rw [k100, hL 100 (by decide)]; rfl)), hR0.2.1, hR0.2.2.1, hR0.2.2.2.1, ⟨⟨(show 0 ≤ F 0 by omega), (show F 0 ≤ 6 by omega)⟩, fun _ => DEED_keep (by decide) (hDE2.1 (by omega)) rfl (fun q h1 h2 => kk q (by omega) (by omega)), fun _ => DEED_keep (by decide) (hDE2.2.1 (by omega)) rfl (fun q h1 h2 => kk q (by omega) (by omega)), fun q => absurd (show (2 : Int) < F 0 from q) (by omega), fun q => absurd (show (3 : Int) < F 0 from q) (by omega), fun q => absurd (show (4 : Int) < F 0 from q) (by omega), fun q => absurd (show (5 : Int) < F 0 from q) (by omega)⟩, hR0.2.2.2.2.2.1, hR0.2.2.2.2.2.2.1, hR0.2.2.2.2.2.2.2.1, hR0.2.2.2.2.2.2.2.2.1, (REFU_up hR0.2.2.2.2.2.2.2.2.2 (hL 87 (by decide)) (by decide) (by decide))⟩⟩
      · exfalso
        omega
  · refine R_s (P := inI ((-10) - ya) ∧ True) (f' := (58, [some (vR 1), some (vR 38)], [vI ((-10) - ya)], LAY (u (u (u (u (u (u (u (u (shA A) 39 y0) 40 y1) 41 y2) 42 y3) 43 y4) 44 y5) 45 y6) 46 y7) (u (u (u (shF F) 6 ya) 7 yv) 10 ye), 0, 0)) hc72 5 rfl ⟨⟨by omega, by omega⟩, trivial⟩ ?_
    refine R_reti hc72 rfl rfl ⟨⟨_, rfl⟩, ⟨_, _, rfl, rfl⟩, ?_⟩
    refine R_s (P := True) (f' := (6, [some (vR 88), none], [vI 6, vI (F 0)], LAY (u (u (u (u (u (u (u (u (shA A) 39 y0) 40 y1) 41 y2) 42 y3) 43 y4) 44 y5) 45 y6) 46 y7) (u (u (u (shF F) 6 ya) 7 yv) 10 ye), 0, 0)) hc140 3 rfl trivial ?_
    refine R_ic (t := 16) hc140 rfl rfl (fun (_ : ¬ F 0 = 6) => ?_) (fun (z : ¬ (¬ F 0 = 6)) => absurd (show ¬ F 0 = 6 by omega) z)
    refine R_s (P := True) (f' := (17, [some (vR 88), none], [vR 88], LAY (u (u (u (u (u (u (u (u (shA A) 39 y0) 40 y1) 41 y2) 42 y3) 43 y4) 44 y5) 45 y6) 46 y7) (u (u (u (shF F) 6 ya) 7 yv) 10 ye), 0, 0)) hc140 1 rfl trivial ?_
    refine R_cv hc140 rfl rfl (l_reads (A := (u (u (u (u (u (u (u (u (shA A) 39 y0) 40 y1) 41 y2) 42 y3) 43 y4) 44 y5) 45 y6) 46 y7)) (F := (u (u (u (shF F) 6 ya) 7 yv) 10 ye)) hT1 (hL 18 (by decide)) (hL 100 (by decide)) ⟨(show 0 ≤ F 0 by omega), (show F 0 ≤ 5 by omega)⟩) (fun r G9 hp9 => ?_)
    obtain ⟨l100, zf, za, ze, zv, rfl, rfl, k100, kk0, zab, hm0⟩ := hp9
    have zab : 0 ≤ za ∧ za ≤ F 5 := zab
    have kk : ∀ q : Int, 0 ≤ q → q < 48 * F 0 → rd l100 q = rd (A 100) q := kk0
    have hm : (zf = 1 ∧ fAIL (A 18) (F 5) za) ∨ (zf = 0 ∧ ∃ n : Nat, ze = n ∧ sUCC (A 18) (F 5) n ∧ ∀ j : Nat, j < n → eV (A 18) (F 5) j (sT (A 18) (F 5) j) (rd l100 (48 * F 0 + 8 * j)) (rd l100 (48 * F 0 + 8 * j + 1)) (rd l100 (48 * F 0 + 8 * j + 2)) (rd l100 (48 * F 0 + 8 * j + 3)) (rd l100 (48 * F 0 + 8 * j + 4)) (rd l100 (48 * F 0 + 8 * j + 5) + 1) (rd l100 (48 * F 0 + 8 * j + 6)) (rd l100 (48 * F 0 + 8 * j + 7))) := hm0
    have hx1 : yc = 0 → zf = 1 ∧ za = ya := fun q => by
      have h1 := (hcase.resolve_right (fun z => by omega)).2
      rcases hm with h2 | h2
      · exact ⟨h2.1, fAIL_eq h2.2 h1⟩
      · obtain ⟨n2, -, h3, -⟩ := h2.2
        exact absurd (sUCC_fAIL h3 h1) id
    have hx2 : yc = 1 → zf = 0 := fun q => by
      obtain ⟨n2, -, h3, -⟩ := (hcase.resolve_left (fun z => by omega)).2
      rcases hm with h2 | h2
      · exact absurd (sUCC_fAIL h3 h2.2) id
      · exact h2.1
    refine R_s (f' := (20, [some (vR 88), none], [vI ze], LAY (u (u (u (u (u (u (u (u (u (shA A) 39 y0) 40 y1) 41 y2) 42 y3) 43 y4) 44 y5) 45 y6) 46 y7) 100 l100) (u (u (u (u (u (u (shF F) 6 ya) 7 yv) 10 ye) 26 zf) 25 za) 27 zv), 0, 0)) hc140 0 rfl trivial ?_
    refine R_s (P := True) (f' := (25, [some (vR 88), some (vI ze)], [vI zf], LAY (u (u (u (u (u (u (u (u (u (shA A) 39 y0) 40 y1) 41 y2) 42 y3) 43 y4) 44 y5) 45 y6) 46 y7) 100 l100) (u (u (u (u (u (u (shF F) 6 ya) 7 yv) 10 ye) 26 zf) 25 za) 27 zv), 0, 0)) hc140 3 rfl trivial ?_
    refine R_if (t := 36) hc140 rfl rfl (fun (c107 : zf = 0) => ?_) (fun (c107 : ¬ (zf = 0)) => ?_)
    · exfalso
      omega
    · refine R_s (P := inI ((-10) - za) ∧ True) (f' := (35, [some (vR 88), some (vI ze)], [vI ((-10) - za)], LAY (u (u (u (u (u (u (u (u (u (shA A) 39 y0) 40 y1) 41 y2) 42 y3) 43 y4) 44 y5) 45 y6) 46 y7) 100 l100) (u (u (u (u (u (u (shF F) 6 ya) 7 yv) 10 ye) 26 zf) 25 za) 27 zv), 0, 0)) hc140 4 rfl ⟨⟨by omega, by omega⟩, trivial⟩ ?_
      refine R_reti hc140 rfl rfl ?_
      first
        | (exfalso; omega; done)
        | exact ⟨(by rw [show (-10) - za = (-10) - ya by omega]), (u (u (u (u (u (u (u (u (u A 39 y0) 40 y1) 41 y2) 42 y3) 43 y4) 44 y5) 45 y6) 46 y7) 100 l100), (u (u (u (u (u (u F 6 ya) 7 yv) 10 ye) 26 zf) 25 za) 27 zv), rfl, rfl, ⟨(LENS_u (LENS_u (LENS_u (LENS_u (LENS_u (LENS_u (LENS_u (LENS_u (LENS_u hL (by show (y0).length = (A 39).length; rw [ly0, hL 39 (by decide)]; rfl)) (by show (y1).length = (A 40).length; rw [ly1, hL 40 (by decide)]; rfl)) (by show (y2).length = (A 41).length; rw [ly2, hL 41 (by decide)]; rfl)) (by show (y3).length = (A 42).length; rw [ly3, hL 42 (by decide)]; rfl)) (by show (y4).length = (A 43).length; rw [ly4, hL 43 (by decide)]; rfl)) (by show (y5).length = (A 44).length; rw [ly5, hL 44 (by decide)]; rfl)) (by show (y6).length = (A 45).length; rw [ly6, hL 45 (by decide)]; rfl)) (by show (y7).length = (A 46).length; rw [ly7, hL 46 (by decide)]; rfl)) (by show (l100).length = (A 100).length; rw [k100, hL 100 (by decide)]; rfl)), hR0.2.1, hR0.2.2.1, hR0.2.2.2.1, ⟨⟨(show 0 ≤ F 0 by omega), (show F 0 ≤ 6 by omega)⟩, fun _ => DEED_keep (by decide) (hDE2.1 (by omega)) rfl (fun q h1 h2 => kk q (by omega) (by omega)), fun _ => DEED_keep (by decide) (hDE2.2.1 (by omega)) rfl (fun q h1 h2 => kk q (by omega) (by omega)), fun q => absurd (show (2 : Int) < F 0 from q) (by omega), fun q => absurd (show (3 : Int) < F 0 from q) (by omega), fun q => absurd (show (4 : Int) < F 0 from q) (by omega), fun q => absurd (show (5 : Int) < F 0 from q) (by omega)⟩, hR0.2.2.2.2.2.1, hR0.2.2.2.2.2.2.1, hR0.2.2.2.2.2.2.2.1, hR0.2.2.2.2.2.2.2.2.1, (REFU_c hR0.2.2.2.2.2.2.2.2.2)⟩⟩

theorem op_deed_3 {c : Int} {A : Nat → List Int} {F : Nat → Int} (hR : REL c A F) (hc : c < 512) (hd : F 0 = 3) : R 72 (0, L0 72 [vR 1], [], LAY (shA A) (shF F), 0, 0) (fun r G => (∃ x, r = some (vI x)) ∧ (∃ (A1 : Nat → List Int) (F1 : Nat → Int), G = LAY A1 F1 ∧ A1 0 = A 0) ∧ R 140 (0, L0 140 [vR 88], [], G, 0, 0) (fun r2 G2 => r2 = r ∧ ∃ (A' : Nat → List Int) (F' : Nat → Int), G2 = LAY (shA A') (shF F') ∧ A' 0 = A 0 ∧ REL (c + 1) A' F')) := by
  have hR0 := hR
  obtain ⟨hL, hPE, hTH, hTP, hDE, hLE, hNO, hAC, hRO, hRE⟩ := hR
  have h87 : (A 87).length = 9 := hL 87 (by decide)
  have h99 : (A 99).length = 6 := hL 99 (by decide)
  have r2 := REFU_at hRE (k := 2) (by decide) (by decide) hc
  have r3 := REFU_at hRE (k := 3) (by decide) (by decide) hc
  have r4 := REFU_at hRE (k := 4) (by decide) (by decide) hc
  have r5 := REFU_at hRE (k := 5) (by decide) (by decide) hc
  have r6 := REFU_at hRE (k := 6) (by decide) (by decide) hc
  have r7 := REFU_at hRE (k := 7) (by decide) (by decide) hc
  have r8 := REFU_at hRE (k := 8) (by decide) (by decide) hc
  obtain ⟨t1, t2, t3, t4, t5, t6⟩ := hTH
  obtain ⟨p1, p2, p3, p4, p5, p6⟩ := hPE
  have hT1 := hR0.2.2.2.1
  have hDE2 := hR0.2.2.2.2.1.2
  have x0 : (A 48).length = 6 := hL 48 (by decide)
  have x1 : (A 49).length = 6 := hL 49 (by decide)
  have x2 : (A 50).length = 6 := hL 50 (by decide)
  have x3 : (A 51).length = 6 := hL 51 (by decide)
  have x4 : (A 52).length = 6 := hL 52 (by decide)
  have x5 : (A 53).length = 6 := hL 53 (by decide)
  have x6 : (A 54).length = 6 := hL 54 (by decide)
  have x7 : (A 55).length = 6 := hL 55 (by decide)
  refine R_s (P := True) (f' := (6, [some (vR 1), none], [vI 6, vI (F 0)], LAY (shA A) (shF F), 0, 0)) hc72 3 rfl trivial ?_
  refine R_ic (t := 16) hc72 rfl rfl (fun (_ : F 0 < 6) => ?_) (fun (z : ¬ (F 0 < 6)) => absurd (show F 0 < 6 by omega) z)
  refine R_s (P := True) (f' := (24, [some (vR 1), none], [vI (F 0), vR 19], LAY (shA A) (shF F), 0, 0)) hc72 4 rfl trivial ?_
  rw [hd]
  refine R_s (P := (0 ≤ (3 : Int) ∧ (3 : Int) < (([some 20, some 29, some 38, some 47, some 56, some 65] : List (Option Nat)).length : Int)) ∧ True) (f' := (42, [some (vR 1), some (vR 47)], [vR 47, vR 17], LAY (shA A) (shF F), 0, 0)) hc72 7 rfl ⟨(by decide), trivial⟩ ?_
  refine R_cv hc72 rfl rfl (l_rdeed3 (A := shA A) (F := shF F) (LENS_sh hL) hT1) (fun r G9 hp9 => ?_)
  obtain ⟨yc, y0, y1, y2, y3, y4, y5, y6, y7, ya, yv, ye, rfl, rfl, ly0, ly1, ly2, ly3, ly4, ly5, ly6, ly7, yab, hcase0⟩ := hp9
  have yab : 0 ≤ ya ∧ ya ≤ F 5 := yab
  have hcase : (yc = 0 ∧ fAIL (A 18) (F 5) ya) ∨ (yc = 1 ∧ ∃ n : Nat, ye = n ∧ sUCC (A 18) (F 5) n ∧ ∀ j : Nat, j < n → eV (A 18) (F 5) j (sT (A 18) (F 5) j) (rd y0 j) (rd y1 j) (rd y2 j) (rd y3 j) (rd y4 j) (rd y5 j) (rd y6 j) (rd y7 j)) := hcase0
  have yc1 : yc = 0 ∨ yc = 1 := by omega
  refine R_s (f' := (45, [some (vR 1), some (vR 47)], [vI yc], LAY (u (u (u (u (u (u (u (u (shA A) 48 y0) 49 y1) 50 y2) 51 y3) 52 y4) 53 y5) 54 y6) 55 y7) (u (u (u (shF F) 6 ya) 7 yv) 11 ye), 0, 0)) hc72 0 rfl trivial ?_
  refine R_if (t := 59) hc72 rfl rfl (fun (c2 : ¬ yc = 0) => ?_) (fun (c2 : ¬ (¬ yc = 0)) => ?_)
  · obtain ⟨n, hyn, hsu, hev⟩ := (hcase.resolve_left (fun z => by omega)).2
    have hn6 : 1 ≤ n ∧ n ≤ 6 := by
      obtain ⟨i0, e0, h6, -⟩ := hsu
      omega
    refine R_s (P := True) (f' := (67, [some (vR 1), some (vR 47)], [vI (F 3), vR 47], LAY (u (u (u (u (u (u (u (u (shA A) 48 y0) 49 y1) 50 y2) 51 y3) 52 y4) 53 y5) 54 y6) 55 y7) (u (u (u (shF F) 6 ya) 7 yv) 11 ye), 0, 0)) hc72 4 rfl trivial ?_
    refine R_cv hc72 rfl rfl (l_sound3 (A := (u (u (u (u (u (u (u (u (shA A) 48 y0) 49 y1) 50 y2) 51 y3) 52 y4) 53 y5) 54 y6) 55 y7)) (F := (u (u (u (shF F) 6 ya) 7 yv) 11 ye)) (LENS_u (LENS_u (LENS_u (LENS_u (LENS_u (LENS_u (LENS_u (LENS_u (LENS_sh hL) (by show y0.length = (A 48).length; omega)) (by show y1.length = (A 49).length; omega)) (by show y2.length = (A 50).length; omega)) (by show y3.length = (A 51).length; omega)) (by show y4.length = (A 52).length; omega)) (by show y5.length = (A 53).length; omega)) (by show y6.length = (A 54).length; omega)) (by show y7.length = (A 55).length; omega)) (e := n) hn6.2 hyn (fun j hj q => ((eV_num (hev j hj)).1 (.inr (.inl q))))) (fun r G9 hp9 => ?_)
    obtain ⟨yd, rfl, rfl, hsd0⟩ := hp9
    have hsd : (yd = 1 ∧ sOUND (fun j => rd y0 j) (fun j => rd y1 j) (fun j => rd y2 j) (F 3) n) ∨ (yd = 0 ∧ ¬ sOUND (fun j => rd y0 j) (fun j => rd y1 j) (fun j => rd y2 j) (F 3) n) := hsd0
    have yd1 : yd = 0 ∨ yd = 1 := by omega
    refine R_s (f' := (70, [some (vR 1), some (vR 47)], [vI yd], LAY (u (u (u (u (u (u (u (u (shA A) 48 y0) 49 y1) 50 y2) 51 y3) 52 y4) 53 y5) 54 y6) 55 y7) (u (u (u (shF F) 6 ya) 7 yv) 11 ye), 0, 0)) hc72 0 rfl trivial ?_
    refine R_if (t := 80) hc72 rfl rfl (fun (c3 : ¬ yd = 0) => ?_) (fun (c3 : ¬ (¬ yd = 0)) => ?_)
    · refine R_s (P := inI ((F 0) + 1) ∧ inI (((F 0) + 1) - 1) ∧ True) (f' := (104, [some (vR 1), some (vR 47)], [vI (((F 0) + 1) - 1)], LAY (u (u (u (u (u (u (u (u (shA A) 48 y0) 49 y1) 50 y2) 51 y3) 52 y4) 53 y5) 54 y6) 55 y7) (u (u (u (u (u (shF F) 6 ya) 7 yv) 11 ye) 5 0) 0 ((F 0) + 1)), 0, 0)) hc72 14 rfl ⟨⟨by omega, by omega⟩, ⟨by omega, by omega⟩, trivial⟩ ?_
      refine R_reti hc72 rfl rfl ⟨⟨_, rfl⟩, ⟨_, _, rfl, rfl⟩, ?_⟩
      refine R_s (P := True) (f' := (6, [some (vR 88), none], [vI 6, vI (F 0)], LAY (u (u (u (u (u (u (u (u (shA A) 48 y0) 49 y1) 50 y2) 51 y3) 52 y4) 53 y5) 54 y6) 55 y7) (u (u (u (u (u (shF F) 6 ya) 7 yv) 11 ye) 5 0) 0 ((F 0) + 1)), 0, 0)) hc140 3 rfl trivial ?_
      refine R_ic (t := 16) hc140 rfl rfl (fun (_ : ¬ F 0 = 6) => ?_) (fun (z : ¬ (¬ F 0 = 6)) => absurd (show ¬ F 0 = 6 by omega) z)
      refine R_s (P := True) (f' := (17, [some (vR 88), none], [vR 88], LAY (u (u (u (u (u (u (u (u (shA A) 48 y0) 49 y1) 50 y2) 51 y3) 52 y4) 53 y5) 54 y6) 55 y7) (u (u (u (u (u (shF F) 6 ya) 7 yv) 11 ye) 5 0) 0 ((F 0) + 1)), 0, 0)) hc140 1 rfl trivial ?_
      refine R_cv hc140 rfl rfl (l_reads (A := (u (u (u (u (u (u (u (u (shA A) 48 y0) 49 y1) 50 y2) 51 y3) 52 y4) 53 y5) 54 y6) 55 y7)) (F := (u (u (u (u (u (shF F) 6 ya) 7 yv) 11 ye) 5 0) 0 ((F 0) + 1))) hT1 (hL 18 (by decide)) (hL 100 (by decide)) ⟨(show 0 ≤ F 0 by omega), (show F 0 ≤ 5 by omega)⟩) (fun r G9 hp9 => ?_)
      obtain ⟨l100, zf, za, ze, zv, rfl, rfl, k100, kk0, zab, hm0⟩ := hp9
      have zab : 0 ≤ za ∧ za ≤ F 5 := zab
      have kk : ∀ q : Int, 0 ≤ q → q < 48 * F 0 → rd l100 q = rd (A 100) q := kk0
      have hm : (zf = 1 ∧ fAIL (A 18) (F 5) za) ∨ (zf = 0 ∧ ∃ n : Nat, ze = n ∧ sUCC (A 18) (F 5) n ∧ ∀ j : Nat, j < n → eV (A 18) (F 5) j (sT (A 18) (F 5) j) (rd l100 (48 * F 0 + 8 * j)) (rd l100 (48 * F 0 + 8 * j + 1)) (rd l100 (48 * F 0 + 8 * j + 2)) (rd l100 (48 * F 0 + 8 * j + 3)) (rd l100 (48 * F 0 + 8 * j + 4)) (rd l100 (48 * F 0 + 8 * j + 5) + 1) (rd l100 (48 * F 0 + 8 * j + 6)) (rd l100 (48 * F 0 + 8 * j + 7))) := hm0
      have hx1 : yc = 0 → zf = 1 ∧ za = ya := fun q => by
        have h1 := (hcase.resolve_right (fun z => by omega)).2
        rcases hm with h2 | h2
        · exact ⟨h2.1, fAIL_eq h2.2 h1⟩
        · obtain ⟨n2, -, h3, -⟩ := h2.2
          exact absurd (sUCC_fAIL h3 h1) id
      have hx2 : yc = 1 → zf = 0 := fun q => by
        obtain ⟨n2, -, h3, -⟩ := (hcase.resolve_left (fun z => by omega)).2
        rcases hm with h2 | h2
        · exact absurd (sUCC_fAIL h3 h2.2) id
        · exact h2.1
      refine R_s (f' := (20, [some (vR 88), none], [vI ze], LAY (u (u (u (u (u (u (u (u (u (shA A) 48 y0) 49 y1) 50 y2) 51 y3) 52 y4) 53 y5) 54 y6) 55 y7) 100 l100) (u (u (u (u (u (u (u (u (shF F) 6 ya) 7 yv) 11 ye) 5 0) 0 ((F 0) + 1)) 26 zf) 25 za) 27 zv), 0, 0)) hc140 0 rfl trivial ?_
      refine R_s (P := True) (f' := (25, [some (vR 88), some (vI ze)], [vI zf], LAY (u (u (u (u (u (u (u (u (u (shA A) 48 y0) 49 y1) 50 y2) 51 y3) 52 y4) 53 y5) 54 y6) 55 y7) 100 l100) (u (u (u (u (u (u (u (u (shF F) 6 ya) 7 yv) 11 ye) 5 0) 0 ((F 0) + 1)) 26 zf) 25 za) 27 zv), 0, 0)) hc140 3 rfl trivial ?_
      refine R_if (t := 36) hc140 rfl rfl (fun (c105 : zf = 0) => ?_) (fun (c105 : ¬ (zf = 0)) => ?_)
      · obtain ⟨n2, hzn, hsu2, hem⟩ := (hm.resolve_left (fun z => by omega)).2
        have en : n2 = n := sUCC_eq hsu2 hsu
        rw [en] at hzn hem
        refine R_s (P := True) (f' := (38, [some (vR 88), some (vI ze)], [vI ze, vR 88], LAY (u (u (u (u (u (u (u (u (u (shA A) 48 y0) 49 y1) 50 y2) 51 y3) 52 y4) 53 y5) 54 y6) 55 y7) 100 l100) (u (u (u (u (u (u (u (u (shF F) 6 ya) 7 yv) 11 ye) 5 0) 0 ((F 0) + 1)) 26 zf) 25 za) 27 zv), 0, 0)) hc140 2 rfl trivial ?_
        refine R_cv hc140 rfl rfl (l_good (A := (u (u (u (u (u (u (u (u (u (shA A) 48 y0) 49 y1) 50 y2) 51 y3) 52 y4) 53 y5) 54 y6) 55 y7) 100 l100)) (F := (u (u (u (u (u (u (u (u (shF F) 6 ya) 7 yv) 11 ye) 5 0) 0 ((F 0) + 1)) 26 zf) 25 za) 27 zv)) (by show l100.length = 288; exact k100) ⟨(show 0 ≤ F 0 by omega), (show F 0 ≤ 5 by omega)⟩ ⟨p1, p2⟩ (n := n) hzn hn6.2 (fun j hj => ⟨fun q => (eV_num (hem j hj)).1 (.inr (.inl q)), (eV_num (hem j hj)).2⟩)) (fun r G9 hp9 => ?_)
        obtain ⟨zd, rfl, rfl, hgd0⟩ := hp9
        have hgd : (zd = 1 ∧ sOUND (fun j => rd l100 (48 * F 0 + 8 * j)) (fun j => rd l100 (48 * F 0 + 8 * j + 1)) (fun j => rd l100 (48 * F 0 + 8 * j + 2)) (F 3) n) ∨ (zd = 0 ∧ ¬ sOUND (fun j => rd l100 (48 * F 0 + 8 * j)) (fun j => rd l100 (48 * F 0 + 8 * j + 1)) (fun j => rd l100 (48 * F 0 + 8 * j + 2)) (F 3) n) := hgd0
        have hso : sOUND (fun j => rd y0 j) (fun j => rd y1 j) (fun j => rd y2 j) (F 3) n ↔ sOUND (fun j => rd l100 (48 * F 0 + 8 * j)) (fun j => rd l100 (48 * F 0 + 8 * j + 1)) (fun j => rd l100 (48 * F 0 + 8 * j + 2)) (F 3) n := sOUND_eq (fun j hj => by
          have z1 := hev j hj
          have z2 := hem j hj
          (try dsimp only)
          refine ⟨by rw [z1.1, z2.1], fun q => ?_⟩
          rcases q with q | q
          · have w : eK (A 18) (F 5) j (sT (A 18) (F 5) j) = 1 := z1.1.symm.trans q
            have w2 : rd l100 (48 * F 0 + 8 * j) = 1 := by rw [z2.1]; exact w
            exact ⟨by rw [(z1.2.2.1 q).1, (z2.2.2.1 w2).1], by rw [(z1.2.2.1 q).2.1, (z2.2.2.1 w2).2.1]⟩
          · have w : eK (A 18) (F 5) j (sT (A 18) (F 5) j) = 2 := z1.1.symm.trans q
            have w2 : rd l100 (48 * F 0 + 8 * j) = 2 := by rw [z2.1]; exact w
            exact ⟨by rw [(z1.2.2.2.1 q).1, (z2.2.2.2.1 w2).1], by rw [(z1.2.2.2.1 q).2, (z2.2.2.2.1 w2).2]⟩)
        have hx3 : zd = yd := by
          rcases hsd with h1 | h1 <;> rcases hgd with h2 | h2
          · omega
          · exact absurd (hso.mp h1.2) h2.2
          · exact absurd (hso.mpr h2.2) h1.2
          · omega
        refine R_s (f' := (41, [some (vR 88), some (vI ze)], [vI zd], LAY (u (u (u (u (u (u (u (u (u (shA A) 48 y0) 49 y1) 50 y2) 51 y3) 52 y4) 53 y5) 54 y6) 55 y7) 100 l100) (u (u (u (u (u (u (u (u (shF F) 6 ya) 7 yv) 11 ye) 5 0) 0 ((F 0) + 1)) 26 zf) 25 za) 27 zv), 0, 0)) hc140 0 rfl trivial ?_
        refine R_if (t := 51) hc140 rfl rfl (fun (c106 : ¬ zd = 0) => ?_) (fun (c106 : ¬ (¬ zd = 0)) => ?_)
        · refine R_s (P := (0 ≤ F 0 ∧ F 0 < ((A 99).length : Int)) ∧ inI ((F 0) + 1) ∧ inI (((F 0) + 1) - 1) ∧ True) (f' := (82, [some (vR 88), some (vI ze)], [vI (((F 0) + 1) - 1)], LAY (u (u (u (u (u (u (u (u (u (u (shA A) 48 y0) 49 y1) 50 y2) 51 y3) 52 y4) 53 y5) 54 y6) 55 y7) 100 l100) 99 (wr (A 99) (F 0) ze)) (u (u (u (u (u (u (u (u (u (u (shF F) 6 ya) 7 yv) 11 ye) 5 0) 0 ((F 0) + 1)) 26 zf) 25 za) 27 zv) 24 0) 21 ((F 0) + 1)), 0, 0)) hc140 19 rfl ⟨⟨by omega, by omega⟩, ⟨by omega, by omega⟩, ⟨by omega, by omega⟩, trivial⟩ ?_
          refine R_reti hc140 rfl rfl ?_
          first
            | (exfalso; omega; done)
            | exact ⟨rfl, (u (u (u (u (u (u (u (u (u (u A 48 y0) 49 y1) 50 y2) 51 y3) 52 y4) 53 y5) 54 y6) 55 y7) 100 l100) 99 (wr (A 99) (F 0) ze)), (u (u (u (u (u (u (u (u F 6 ya) 7 yv) 11 ye) 5 0) 0 ((F 0) + 1)) 26 zf) 25 za) 27 zv), rfl, rfl, ⟨(LENS_u (LENS_u (LENS_u (LENS_u (LENS_u (LENS_u (LENS_u (LENS_u (LENS_u (LENS_u hL (by show (y0).length = (A 48).length; rw [ly0, hL 48 (by decide)]; rfl)) (by show (y1).length = (A 49).length; rw [ly1, hL 49 (by decide)]; rfl)) (by show (y2).length = (A 50).length; rw [ly2, hL 50 (by decide)]; rfl)) (by show (y3).length = (A 51).length; rw [ly3, hL 51 (by decide)]; rfl)) (by show (y4).length = (A 52).length; rw [ly4, hL 52 (by decide)]; rfl)) (by show (y5).length = (A 53).length; rw [ly5, hL 53 (by decide)]; rfl)) (by show (y6).length = (A 54).length; rw [ly6, hL 54 (by decide)]; rfl)) (by show (y7).length = (A 55).length; rw [ly7, hL 55 (by decide)]; rfl)) (by show (l100).length = (A 100).length; rw [k100, hL 100 (by decide)]; rfl)) (by show (wr (A 99) (F 0) ze).length = (A 99).length; simp only [wr_len])), hR0.2.1, hR0.2.2.1, ⟨(show (0 : Int) ≤ 0 by decide), (show (0 : Int) ≤ 120 by decide)⟩, ⟨⟨(show 0 ≤ F 0 + 1 by omega), (show F 0 + 1 ≤ 6 by omega)⟩, fun _ => DEED_keep (by decide) (hDE2.1 (by omega)) (by show rd (wr (A 99) (F 0) ze) 0 = rd (A 99) 0; exact rd_wr_n (by omega) (by decide) (by omega)) (fun q h1 h2 => kk q (by omega) (by omega)), fun _ => DEED_keep (by decide) (hDE2.2.1 (by omega)) (by show rd (wr (A 99) (F 0) ze) 1 = rd (A 99) 1; exact rd_wr_n (by omega) (by decide) (by omega)) (fun q h1 h2 => kk q (by omega) (by omega)), fun _ => DEED_keep (by decide) (hDE2.2.2.1 (by omega)) (by show rd (wr (A 99) (F 0) ze) 2 = rd (A 99) 2; exact rd_wr_n (by omega) (by decide) (by omega)) (fun q h1 h2 => kk q (by omega) (by omega)), fun _ => by
                  have z := DEED_new (mE := wr (A 99) (F 0) ze) (d := 3) hsu hev (by rw [hd] at hem; exact hem) (by rw [hd, rd_wr_s (by omega) (by rw [hL 99 (by decide)]; decide)]; exact hzn) (hsd.resolve_right (fun z => by omega)).2
                  rw [← hyn] at z
                  exact z, fun q => absurd (show (4 : Int) < F 0 + 1 from q) (by omega), fun q => absurd (show (5 : Int) < F 0 + 1 from q) (by omega)⟩, hR0.2.2.2.2.2.1, hR0.2.2.2.2.2.2.1, hR0.2.2.2.2.2.2.2.1, hR0.2.2.2.2.2.2.2.2.1, (REFU_c hR0.2.2.2.2.2.2.2.2.2)⟩⟩
        · exact absurd (show ¬ zd = 0 by rw [hx3]; assumption) (by assumption)
      · exfalso
        omega
    · refine R_s (P := True) (f' := (76, [some (vR 1), some (vR 47)], [vI (-7), vR 1], LAY (u (u (u (u (u (u (u (u (shA A) 48 y0) 49 y1) 50 y2) 51 y3) 52 y4) 53 y5) 54 y6) 55 y7) (u (u (u (shF F) 6 ya) 7 yv) 11 ye), 0, 0)) hc72 2 rfl trivial ?_
      refine R_cv hc72 rfl rfl ?_ (fun r G h => h)
      refine R_s (P := True) (f' := (3, [some (vR 1), some (vI (-7))], [vI (-2), vI (-7)], LAY (u (u (u (u (u (u (u (u (shA A) 48 y0) 49 y1) 50 y2) 51 y3) 52 y4) 53 y5) 54 y6) 55 y7) (u (u (u (shF F) 6 ya) 7 yv) 11 ye), 0, 0)) hc93 2 rfl trivial ?_
      refine R_ic (t := 23) hc93 rfl rfl (fun (z : (-2) < (-7)) => absurd z (by decide)) (fun (_ : ¬ ((-2) < (-7))) => ?_)
      refine R_s (P := True) (f' := (9, [some (vR 1), some (vI (-7))], [vI (-8), vI (-7)], LAY (u (u (u (u (u (u (u (u (shA A) 48 y0) 49 y1) 50 y2) 51 y3) 52 y4) 53 y5) 54 y6) 55 y7) (u (u (u (shF F) 6 ya) 7 yv) 11 ye), 0, 0)) hc93 2 rfl trivial ?_
      refine R_ic (t := 23) hc93 rfl rfl (fun (z : (-7) < (-8)) => absurd z (by decide)) (fun (_ : ¬ ((-7) < (-8))) => ?_)
      refine R_s (P := inI 7 ∧ (0 ≤ 7 ∧ 7 < ((A 87).length : Int)) ∧ inI ((rd (A 87) 7) + 1) ∧ (0 ≤ 7 ∧ 7 < ((A 87).length : Int)) ∧ True) (f' := (24, [some (vR 1), some (vI (-7))], [vI (-7)], LAY (u (u (u (u (u (u (u (u (u (shA A) 48 y0) 49 y1) 50 y2) 51 y3) 52 y4) 53 y5) 54 y6) 55 y7) 87 (wr (A 87) 7 ((rd (A 87) 7) + 1))) (u (u (u (shF F) 6 ya) 7 yv) 11 ye), 0, 0)) hc93 10 rfl ⟨⟨by omega, by omega⟩, ⟨by omega, by omega⟩, ⟨by omega, by omega⟩, ⟨by omega, by omega⟩, trivial⟩ ?_
      refine R_reti hc93 rfl rfl ?_
      refine R_s (f' := (79, [some (vR 1), some (vR 47)], [vI (-7)], LAY (u (u (u (u (u (u (u (u (u (shA A) 48 y0) 49 y1) 50 y2) 51 y3) 52 y4) 53 y5) 54 y6) 55 y7) 87 (wr (A 87) 7 ((rd (A 87) 7) + 1))) (u (u (u (shF F) 6 ya) 7 yv) 11 ye), 0, 0)) hc72 0 rfl trivial ?_
      refine R_reti hc72 rfl rfl ⟨⟨_, rfl⟩, ⟨_, _, rfl, rfl⟩, ?_⟩
      refine R_s (P := True) (f' := (6, [some (vR 88), none], [vI 6, vI (F 0)], LAY (u (u (u (u (u (u (u (u (u (shA A) 48 y0) 49 y1) 50 y2) 51 y3) 52 y4) 53 y5) 54 y6) 55 y7) 87 (wr (A 87) 7 ((rd (A 87) 7) + 1))) (u (u (u (shF F) 6 ya) 7 yv) 11 ye), 0, 0)) hc140 3 rfl trivial ?_
      refine R_ic (t := 16) hc140 rfl rfl (fun (_ : ¬ F 0 = 6) => ?_) (fun (z : ¬ (¬ F 0 = 6)) => absurd (show ¬ F 0 = 6 by omega) z)
      refine R_s (P := True) (f' := (17, [some (vR 88), none], [vR 88], LAY (u (u (u (u (u (u (u (u (u (shA A) 48 y0) 49 y1) 50 y2) 51 y3) 52 y4) 53 y5) 54 y6) 55 y7) 87 (wr (A 87) 7 ((rd (A 87) 7) + 1))) (u (u (u (shF F) 6 ya) 7 yv) 11 ye), 0, 0)) hc140 1 rfl trivial ?_
      refine R_cv hc140 rfl rfl (l_reads (A := (u (u (u (u (u (u (u (u (u (shA A) 48 y0) 49 y1) 50 y2) 51 y3) 52 y4) 53 y5) 54 y6) 55 y7) 87 (wr (A 87) 7 ((rd (A 87) 7) + 1)))) (F := (u (u (u (shF F) 6 ya) 7 yv) 11 ye)) hT1 (hL 18 (by decide)) (hL 100 (by decide)) ⟨(show 0 ≤ F 0 by omega), (show F 0 ≤ 5 by omega)⟩) (fun r G9 hp9 => ?_)
      obtain ⟨l100, zf, za, ze, zv, rfl, rfl, k100, kk0, zab, hm0⟩ := hp9
      have zab : 0 ≤ za ∧ za ≤ F 5 := zab
      have kk : ∀ q : Int, 0 ≤ q → q < 48 * F 0 → rd l100 q = rd (A 100) q := kk0
      have hm : (zf = 1 ∧ fAIL (A 18) (F 5) za) ∨ (zf = 0 ∧ ∃ n : Nat, ze = n ∧ sUCC (A 18) (F 5) n ∧ ∀ j : Nat, j < n → eV (A 18) (F 5) j (sT (A 18) (F 5) j) (rd l100 (48 * F 0 + 8 * j)) (rd l100 (48 * F 0 + 8 * j + 1)) (rd l100 (48 * F 0 + 8 * j + 2)) (rd l100 (48 * F 0 + 8 * j + 3)) (rd l100 (48 * F 0 + 8 * j + 4)) (rd l100 (48 * F 0 + 8 * j + 5) + 1) (rd l100 (48 * F 0 + 8 * j + 6)) (rd l100 (48 * F 0 + 8 * j + 7))) := hm0
      have hx1 : yc = 0 → zf = 1 ∧ za = ya := fun q => by
        have h1 := (hcase.resolve_right (fun z => by omega)).2
        rcases hm with h2 | h2
        · exact ⟨h2.1, fAIL_eq h2.2 h1⟩
        · obtain ⟨n2, -, h3, -⟩ := h2.2
          exact absurd (sUCC_fAIL h3 h1) id
      have hx2 : yc = 1 → zf = 0 := fun q => by
        obtain ⟨n2, -, h3, -⟩ := (hcase.resolve_left (fun z => by omega)).2
        rcases hm with h2 | h2
        · exact absurd (sUCC_fAIL h3 h2.2) id
        · exact h2.1
      refine R_s (f' := (20, [some (vR 88), none], [vI ze], LAY (u (u (u (u (u (u (u (u (u (u (shA A) 48 y0) 49 y1) 50 y2) 51 y3) 52 y4) 53 y5) 54 y6) 55 y7) 87 (wr (A 87) 7 ((rd (A 87) 7) + 1))) 100 l100) (u (u (u (u (u (u (shF F) 6 ya) 7 yv) 11 ye) 26 zf) 25 za) 27 zv), 0, 0)) hc140 0 rfl trivial ?_
      refine R_s (P := True) (f' := (25, [some (vR 88), some (vI ze)], [vI zf], LAY (u (u (u (u (u (u (u (u (u (u (shA A) 48 y0) 49 y1) 50 y2) 51 y3) 52 y4) 53 y5) 54 y6) 55 y7) 87 (wr (A 87) 7 ((rd (A 87) 7) + 1))) 100 l100) (u (u (u (u (u (u (shF F) 6 ya) 7 yv) 11 ye) 26 zf) 25 za) 27 zv), 0, 0)) hc140 3 rfl trivial ?_
      refine R_if (t := 36) hc140 rfl rfl (fun (c107 : zf = 0) => ?_) (fun (c107 : ¬ (zf = 0)) => ?_)
      · obtain ⟨n2, hzn, hsu2, hem⟩ := (hm.resolve_left (fun z => by omega)).2
        have en : n2 = n := sUCC_eq hsu2 hsu
        rw [en] at hzn hem
        refine R_s (P := True) (f' := (38, [some (vR 88), some (vI ze)], [vI ze, vR 88], LAY (u (u (u (u (u (u (u (u (u (u (shA A) 48 y0) 49 y1) 50 y2) 51 y3) 52 y4) 53 y5) 54 y6) 55 y7) 87 (wr (A 87) 7 ((rd (A 87) 7) + 1))) 100 l100) (u (u (u (u (u (u (shF F) 6 ya) 7 yv) 11 ye) 26 zf) 25 za) 27 zv), 0, 0)) hc140 2 rfl trivial ?_
        refine R_cv hc140 rfl rfl (l_good (A := (u (u (u (u (u (u (u (u (u (u (shA A) 48 y0) 49 y1) 50 y2) 51 y3) 52 y4) 53 y5) 54 y6) 55 y7) 87 (wr (A 87) 7 ((rd (A 87) 7) + 1))) 100 l100)) (F := (u (u (u (u (u (u (shF F) 6 ya) 7 yv) 11 ye) 26 zf) 25 za) 27 zv)) (by show l100.length = 288; exact k100) ⟨(show 0 ≤ F 0 by omega), (show F 0 ≤ 5 by omega)⟩ ⟨p1, p2⟩ (n := n) hzn hn6.2 (fun j hj => ⟨fun q => (eV_num (hem j hj)).1 (.inr (.inl q)), (eV_num (hem j hj)).2⟩)) (fun r G9 hp9 => ?_)
        obtain ⟨zd, rfl, rfl, hgd0⟩ := hp9
        have hgd : (zd = 1 ∧ sOUND (fun j => rd l100 (48 * F 0 + 8 * j)) (fun j => rd l100 (48 * F 0 + 8 * j + 1)) (fun j => rd l100 (48 * F 0 + 8 * j + 2)) (F 3) n) ∨ (zd = 0 ∧ ¬ sOUND (fun j => rd l100 (48 * F 0 + 8 * j)) (fun j => rd l100 (48 * F 0 + 8 * j + 1)) (fun j => rd l100 (48 * F 0 + 8 * j + 2)) (F 3) n) := hgd0
        have hso : sOUND (fun j => rd y0 j) (fun j => rd y1 j) (fun j => rd y2 j) (F 3) n ↔ sOUND (fun j => rd l100 (48 * F 0 + 8 * j)) (fun j => rd l100 (48 * F 0 + 8 * j + 1)) (fun j => rd l100 (48 * F 0 + 8 * j + 2)) (F 3) n := sOUND_eq (fun j hj => by
          have z1 := hev j hj
          have z2 := hem j hj
          (try dsimp only)
          refine ⟨by rw [z1.1, z2.1], fun q => ?_⟩
          rcases q with q | q
          · have w : eK (A 18) (F 5) j (sT (A 18) (F 5) j) = 1 := z1.1.symm.trans q
            have w2 : rd l100 (48 * F 0 + 8 * j) = 1 := by rw [z2.1]; exact w
            exact ⟨by rw [(z1.2.2.1 q).1, (z2.2.2.1 w2).1], by rw [(z1.2.2.1 q).2.1, (z2.2.2.1 w2).2.1]⟩
          · have w : eK (A 18) (F 5) j (sT (A 18) (F 5) j) = 2 := z1.1.symm.trans q
            have w2 : rd l100 (48 * F 0 + 8 * j) = 2 := by rw [z2.1]; exact w
            exact ⟨by rw [(z1.2.2.2.1 q).1, (z2.2.2.2.1 w2).1], by rw [(z1.2.2.2.1 q).2, (z2.2.2.2.1 w2).2]⟩)
        have hx3 : zd = yd := by
          rcases hsd with h1 | h1 <;> rcases hgd with h2 | h2
          · omega
          · exact absurd (hso.mp h1.2) h2.2
          · exact absurd (hso.mpr h2.2) h1.2
          · omega
        refine R_s (f' := (41, [some (vR 88), some (vI ze)], [vI zd], LAY (u (u (u (u (u (u (u (u (u (u (shA A) 48 y0) 49 y1) 50 y2) 51 y3) 52 y4) 53 y5) 54 y6) 55 y7) 87 (wr (A 87) 7 ((rd (A 87) 7) + 1))) 100 l100) (u (u (u (u (u (u (shF F) 6 ya) 7 yv) 11 ye) 26 zf) 25 za) 27 zv), 0, 0)) hc140 0 rfl trivial ?_
        refine R_if (t := 51) hc140 rfl rfl (fun (c108 : ¬ zd = 0) => ?_) (fun (c108 : ¬ (¬ zd = 0)) => ?_)
        · exact absurd (show ¬ yd = 0 by rw [← hx3]; assumption) (by assumption)
        · refine R_s (P := True) (f' := (47, [some (vR 88), some (vI ze)], [vI (-7), vR 88], LAY (u (u (u (u (u (u (u (u (u (u (shA A) 48 y0) 49 y1) 50 y2) 51 y3) 52 y4) 53 y5) 54 y6) 55 y7) 87 (wr (A 87) 7 ((rd (A 87) 7) + 1))) 100 l100) (u (u (u (u (u (u (shF F) 6 ya) 7 yv) 11 ye) 26 zf) 25 za) 27 zv), 0, 0)) hc140 2 rfl trivial ?_
          refine R_cv hc140 rfl rfl ?_ (fun r G h => h)
          refine R_s (P := inI 7 ∧ (0 ≤ 7 ∧ 7 < ((A 87).length : Int)) ∧ inI ((rd (A 87) 7) + 1) ∧ (0 ≤ 7 ∧ 7 < ((A 87).length : Int)) ∧ True) (f' := (12, [some (vR 88), some (vI (-7))], [vI (-7)], LAY (u (u (u (u (u (u (u (u (u (u (u (shA A) 48 y0) 49 y1) 50 y2) 51 y3) 52 y4) 53 y5) 54 y6) 55 y7) 87 (wr (A 87) 7 ((rd (A 87) 7) + 1))) 100 l100) 89 (wr (A 87) 7 ((rd (A 87) 7) + 1))) (u (u (u (u (u (u (shF F) 6 ya) 7 yv) 11 ye) 26 zf) 25 za) 27 zv), 0, 0)) hc105 10 rfl ⟨⟨by omega, by omega⟩, ⟨by omega, by omega⟩, ⟨by omega, by omega⟩, ⟨by omega, by omega⟩, trivial⟩ ?_
          refine R_reti hc105 rfl rfl ?_
          refine R_s (f' := (50, [some (vR 88), some (vI ze)], [vI (-7)], LAY (u (u (u (u (u (u (u (u (u (u (u (shA A) 48 y0) 49 y1) 50 y2) 51 y3) 52 y4) 53 y5) 54 y6) 55 y7) 87 (wr (A 87) 7 ((rd (A 87) 7) + 1))) 100 l100) 89 (wr (A 87) 7 ((rd (A 87) 7) + 1))) (u (u (u (u (u (u (shF F) 6 ya) 7 yv) 11 ye) 26 zf) 25 za) 27 zv), 0, 0)) hc140 0 rfl trivial ?_
          refine R_reti hc140 rfl rfl ?_
          first
            | (exfalso; omega; done)
            | exact ⟨rfl, (u (u (u (u (u (u (u (u (u (u A 48 y0) 49 y1) 50 y2) 51 y3) 52 y4) 53 y5) 54 y6) 55 y7) 87 (wr (A 87) 7 ((rd (A 87) 7) + 1))) 100 l100), (u (u (u (u (u (u F 6 ya) 7 yv) 11 ye) 26 zf) 25 za) 27 zv), rfl, rfl, ⟨(LENS_u (LENS_u (LENS_u (LENS_u (LENS_u (LENS_u (LENS_u (LENS_u (LENS_u (LENS_u hL (by show (y0).length = (A 48).length; rw [ly0, hL 48 (by decide)]; rfl)) (by show (y1).length = (A 49).length; rw [ly1, hL 49 (by decide)]; rfl)) (by show (y2).length = (A 50).length; rw [ly2, hL 50 (by decide)]; rfl)) (by show (y3).length = (A 51).length; rw [ly3, hL 51 (by decide)]; rfl)) (by show (y4).length = (A 52).length; rw [ly4, hL 52 (by decide)]; rfl)) (by show (y5).length = (A 53).length; rw [ly5, hL 53 (by decide)]; rfl)) (by show (y6).length = (A 54).length; rw [ly6, hL 54 (by decide)]; rfl)) (by show (y7).length = (A 55).length; rw [ly7, hL 55 (by decide)]; rfl)) (wr_len _ _ _)) (by show (l100).length = (A 100).length; rw [k100, hL 100 (by decide)]; rfl)), hR0.2.1, hR0.2.2.1, hR0.2.2.2.1, ⟨⟨(show 0 ≤ F 0 by omega), (show F 0 ≤ 6 by omega)⟩, fun _ => DEED_keep (by decide) (hDE2.1 (by omega)) rfl (fun q h1 h2 => kk q (by omega) (by omega)), fun _ => DEED_keep (by decide) (hDE2.2.1 (by omega)) rfl (fun q h1 h2 => kk q (by omega) (by omega)), fun _ => DEED_keep (by decide) (hDE2.2.2.1 (by omega)) rfl (fun q h1 h2 => kk q (by omega) (by omega)), fun q => absurd (show (3 : Int) < F 0 from q) (by omega), fun q => absurd (show (4 : Int) < F 0 from q) (by omega), fun q => absurd (show (5 : Int) < F 0 from q) (by omega)⟩, hR0.2.2.2.2.2.1, hR0.2.2.2.2.2.2.1, hR0.2.2.2.2.2.2.2.1, hR0.2.2.2.2.2.2.2.2.1, (REFU_up hR0.2.2.2.2.2.2.2.2.2 (hL 87 (by decide)) (by decide) (by decide))⟩⟩
      · exfalso
        omega
  · refine R_s (P := inI ((-10) - ya) ∧ True) (f' := (58, [some (vR 1), some (vR 47)], [vI ((-10) - ya)], LAY (u (u (u (u (u (u (u (u (shA A) 48 y0) 49 y1) 50 y2) 51 y3) 52 y4) 53 y5) 54 y6) 55 y7) (u (u (u (shF F) 6 ya) 7 yv) 11 ye), 0, 0)) hc72 5 rfl ⟨⟨by omega, by omega⟩, trivial⟩ ?_
    refine R_reti hc72 rfl rfl ⟨⟨_, rfl⟩, ⟨_, _, rfl, rfl⟩, ?_⟩
    refine R_s (P := True) (f' := (6, [some (vR 88), none], [vI 6, vI (F 0)], LAY (u (u (u (u (u (u (u (u (shA A) 48 y0) 49 y1) 50 y2) 51 y3) 52 y4) 53 y5) 54 y6) 55 y7) (u (u (u (shF F) 6 ya) 7 yv) 11 ye), 0, 0)) hc140 3 rfl trivial ?_
    refine R_ic (t := 16) hc140 rfl rfl (fun (_ : ¬ F 0 = 6) => ?_) (fun (z : ¬ (¬ F 0 = 6)) => absurd (show ¬ F 0 = 6 by omega) z)
    refine R_s (P := True) (f' := (17, [some (vR 88), none], [vR 88], LAY (u (u (u (u (u (u (u (u (shA A) 48 y0) 49 y1) 50 y2) 51 y3) 52 y4) 53 y5) 54 y6) 55 y7) (u (u (u (shF F) 6 ya) 7 yv) 11 ye), 0, 0)) hc140 1 rfl trivial ?_
    refine R_cv hc140 rfl rfl (l_reads (A := (u (u (u (u (u (u (u (u (shA A) 48 y0) 49 y1) 50 y2) 51 y3) 52 y4) 53 y5) 54 y6) 55 y7)) (F := (u (u (u (shF F) 6 ya) 7 yv) 11 ye)) hT1 (hL 18 (by decide)) (hL 100 (by decide)) ⟨(show 0 ≤ F 0 by omega), (show F 0 ≤ 5 by omega)⟩) (fun r G9 hp9 => ?_)
    obtain ⟨l100, zf, za, ze, zv, rfl, rfl, k100, kk0, zab, hm0⟩ := hp9
    have zab : 0 ≤ za ∧ za ≤ F 5 := zab
    have kk : ∀ q : Int, 0 ≤ q → q < 48 * F 0 → rd l100 q = rd (A 100) q := kk0
    have hm : (zf = 1 ∧ fAIL (A 18) (F 5) za) ∨ (zf = 0 ∧ ∃ n : Nat, ze = n ∧ sUCC (A 18) (F 5) n ∧ ∀ j : Nat, j < n → eV (A 18) (F 5) j (sT (A 18) (F 5) j) (rd l100 (48 * F 0 + 8 * j)) (rd l100 (48 * F 0 + 8 * j + 1)) (rd l100 (48 * F 0 + 8 * j + 2)) (rd l100 (48 * F 0 + 8 * j + 3)) (rd l100 (48 * F 0 + 8 * j + 4)) (rd l100 (48 * F 0 + 8 * j + 5) + 1) (rd l100 (48 * F 0 + 8 * j + 6)) (rd l100 (48 * F 0 + 8 * j + 7))) := hm0
    have hx1 : yc = 0 → zf = 1 ∧ za = ya := fun q => by
      have h1 := (hcase.resolve_right (fun z => by omega)).2
      rcases hm with h2 | h2
      · exact ⟨h2.1, fAIL_eq h2.2 h1⟩
      · obtain ⟨n2, -, h3, -⟩ := h2.2
        exact absurd (sUCC_fAIL h3 h1) id
    have hx2 : yc = 1 → zf = 0 := fun q => by
      obtain ⟨n2, -, h3, -⟩ := (hcase.resolve_left (fun z => by omega)).2
      rcases hm with h2 | h2
      · exact absurd (sUCC_fAIL h3 h2.2) id
      · exact h2.1
    refine R_s (f' := (20, [some (vR 88), none], [vI ze], LAY (u (u (u (u (u (u (u (u (u (shA A) 48 y0) 49 y1) 50 y2) 51 y3) 52 y4) 53 y5) 54 y6) 55 y7) 100 l100) (u (u (u (u (u (u (shF F) 6 ya) 7 yv) 11 ye) 26 zf) 25 za) 27 zv), 0, 0)) hc140 0 rfl trivial ?_
    refine R_s (P := True) (f' := (25, [some (vR 88), some (vI ze)], [vI zf], LAY (u (u (u (u (u (u (u (u (u (shA A) 48 y0) 49 y1) 50 y2) 51 y3) 52 y4) 53 y5) 54 y6) 55 y7) 100 l100) (u (u (u (u (u (u (shF F) 6 ya) 7 yv) 11 ye) 26 zf) 25 za) 27 zv), 0, 0)) hc140 3 rfl trivial ?_
    refine R_if (t := 36) hc140 rfl rfl (fun (c107 : zf = 0) => ?_) (fun (c107 : ¬ (zf = 0)) => ?_)
    · exfalso
      omega
    · refine R_s (P := inI ((-10) - za) ∧ True) (f' := (35, [some (vR 88), some (vI ze)], [vI ((-10) - za)], LAY (u (u (u (u (u (u (u (u (u (shA A) 48 y0) 49 y1) 50 y2) 51 y3) 52 y4) 53 y5) 54 y6) 55 y7) 100 l100) (u (u (u (u (u (u (shF F) 6 ya) 7 yv) 11 ye) 26 zf) 25 za) 27 zv), 0, 0)) hc140 4 rfl ⟨⟨by omega, by omega⟩, trivial⟩ ?_
      refine R_reti hc140 rfl rfl ?_
      first
        | (exfalso; omega; done)
        | exact ⟨(by rw [show (-10) - za = (-10) - ya by omega]), (u (u (u (u (u (u (u (u (u A 48 y0) 49 y1) 50 y2) 51 y3) 52 y4) 53 y5) 54 y6) 55 y7) 100 l100), (u (u (u (u (u (u F 6 ya) 7 yv) 11 ye) 26 zf) 25 za) 27 zv), rfl, rfl, ⟨(LENS_u (LENS_u (LENS_u (LENS_u (LENS_u (LENS_u (LENS_u (LENS_u (LENS_u hL (by show (y0).length = (A 48).length; rw [ly0, hL 48 (by decide)]; rfl)) (by show (y1).length = (A 49).length; rw [ly1, hL 49 (by decide)]; rfl)) (by show (y2).length = (A 50).length; rw [ly2, hL 50 (by decide)]; rfl)) (by show (y3).length = (A 51).length; rw [ly3, hL 51 (by decide)]; rfl)) (by show (y4).length = (A 52).length; rw [ly4, hL 52 (by decide)]; rfl)) (by show (y5).length = (A 53).length; rw [ly5, hL 53 (by decide)]; rfl)) (by show (y6).length = (A 54).length; rw [ly6, hL 54 (by decide)]; rfl)) (by show (y7).length = (A 55).length; rw [ly7, hL 55 (by decide)]; rfl)) (by show (l100).length = (A 100).length; rw [k100, hL 100 (by decide)]; rfl)), hR0.2.1, hR0.2.2.1, hR0.2.2.2.1, ⟨⟨(show 0 ≤ F 0 by omega), (show F 0 ≤ 6 by omega)⟩, fun _ => DEED_keep (by decide) (hDE2.1 (by omega)) rfl (fun q h1 h2 => kk q (by omega) (by omega)), fun _ => DEED_keep (by decide) (hDE2.2.1 (by omega)) rfl (fun q h1 h2 => kk q (by omega) (by omega)), fun _ => DEED_keep (by decide) (hDE2.2.2.1 (by omega)) rfl (fun q h1 h2 => kk q (by omega) (by omega)), fun q => absurd (show (3 : Int) < F 0 from q) (by omega), fun q => absurd (show (4 : Int) < F 0 from q) (by omega), fun q => absurd (show (5 : Int) < F 0 from q) (by omega)⟩, hR0.2.2.2.2.2.1, hR0.2.2.2.2.2.2.1, hR0.2.2.2.2.2.2.2.1, hR0.2.2.2.2.2.2.2.2.1, (REFU_c hR0.2.2.2.2.2.2.2.2.2)⟩⟩

theorem op_deed_4 {c : Int} {A : Nat → List Int} {F : Nat → Int} (hR : REL c A F) (hc : c < 512) (hd : F 0 = 4) : R 72 (0, L0 72 [vR 1], [], LAY (shA A) (shF F), 0, 0) (fun r G => (∃ x, r = some (vI x)) ∧ (∃ (A1 : Nat → List Int) (F1 : Nat → Int), G = LAY A1 F1 ∧ A1 0 = A 0) ∧ R 140 (0, L0 140 [vR 88], [], G, 0, 0) (fun r2 G2 => r2 = r ∧ ∃ (A' : Nat → List Int) (F' : Nat → Int), G2 = LAY (shA A') (shF F') ∧ A' 0 = A 0 ∧ REL (c + 1) A' F')) := by
  have hR0 := hR
  obtain ⟨hL, hPE, hTH, hTP, hDE, hLE, hNO, hAC, hRO, hRE⟩ := hR
  have h87 : (A 87).length = 9 := hL 87 (by decide)
  have h99 : (A 99).length = 6 := hL 99 (by decide)
  have r2 := REFU_at hRE (k := 2) (by decide) (by decide) hc
  have r3 := REFU_at hRE (k := 3) (by decide) (by decide) hc
  have r4 := REFU_at hRE (k := 4) (by decide) (by decide) hc
  have r5 := REFU_at hRE (k := 5) (by decide) (by decide) hc
  have r6 := REFU_at hRE (k := 6) (by decide) (by decide) hc
  have r7 := REFU_at hRE (k := 7) (by decide) (by decide) hc
  have r8 := REFU_at hRE (k := 8) (by decide) (by decide) hc
  obtain ⟨t1, t2, t3, t4, t5, t6⟩ := hTH
  obtain ⟨p1, p2, p3, p4, p5, p6⟩ := hPE
  have hT1 := hR0.2.2.2.1
  have hDE2 := hR0.2.2.2.2.1.2
  have x0 : (A 57).length = 6 := hL 57 (by decide)
  have x1 : (A 58).length = 6 := hL 58 (by decide)
  have x2 : (A 59).length = 6 := hL 59 (by decide)
  have x3 : (A 60).length = 6 := hL 60 (by decide)
  have x4 : (A 61).length = 6 := hL 61 (by decide)
  have x5 : (A 62).length = 6 := hL 62 (by decide)
  have x6 : (A 63).length = 6 := hL 63 (by decide)
  have x7 : (A 64).length = 6 := hL 64 (by decide)
  refine R_s (P := True) (f' := (6, [some (vR 1), none], [vI 6, vI (F 0)], LAY (shA A) (shF F), 0, 0)) hc72 3 rfl trivial ?_
  refine R_ic (t := 16) hc72 rfl rfl (fun (_ : F 0 < 6) => ?_) (fun (z : ¬ (F 0 < 6)) => absurd (show F 0 < 6 by omega) z)
  refine R_s (P := True) (f' := (24, [some (vR 1), none], [vI (F 0), vR 19], LAY (shA A) (shF F), 0, 0)) hc72 4 rfl trivial ?_
  rw [hd]
  refine R_s (P := (0 ≤ (4 : Int) ∧ (4 : Int) < (([some 20, some 29, some 38, some 47, some 56, some 65] : List (Option Nat)).length : Int)) ∧ True) (f' := (42, [some (vR 1), some (vR 56)], [vR 56, vR 17], LAY (shA A) (shF F), 0, 0)) hc72 7 rfl ⟨(by decide), trivial⟩ ?_
  refine R_cv hc72 rfl rfl (l_rdeed4 (A := shA A) (F := shF F) (LENS_sh hL) hT1) (fun r G9 hp9 => ?_)
  obtain ⟨yc, y0, y1, y2, y3, y4, y5, y6, y7, ya, yv, ye, rfl, rfl, ly0, ly1, ly2, ly3, ly4, ly5, ly6, ly7, yab, hcase0⟩ := hp9
  have yab : 0 ≤ ya ∧ ya ≤ F 5 := yab
  have hcase : (yc = 0 ∧ fAIL (A 18) (F 5) ya) ∨ (yc = 1 ∧ ∃ n : Nat, ye = n ∧ sUCC (A 18) (F 5) n ∧ ∀ j : Nat, j < n → eV (A 18) (F 5) j (sT (A 18) (F 5) j) (rd y0 j) (rd y1 j) (rd y2 j) (rd y3 j) (rd y4 j) (rd y5 j) (rd y6 j) (rd y7 j)) := hcase0
  have yc1 : yc = 0 ∨ yc = 1 := by omega
  refine R_s (f' := (45, [some (vR 1), some (vR 56)], [vI yc], LAY (u (u (u (u (u (u (u (u (shA A) 57 y0) 58 y1) 59 y2) 60 y3) 61 y4) 62 y5) 63 y6) 64 y7) (u (u (u (shF F) 6 ya) 7 yv) 12 ye), 0, 0)) hc72 0 rfl trivial ?_
  refine R_if (t := 59) hc72 rfl rfl (fun (c2 : ¬ yc = 0) => ?_) (fun (c2 : ¬ (¬ yc = 0)) => ?_)
  · obtain ⟨n, hyn, hsu, hev⟩ := (hcase.resolve_left (fun z => by omega)).2
    have hn6 : 1 ≤ n ∧ n ≤ 6 := by
      obtain ⟨i0, e0, h6, -⟩ := hsu
      omega
    refine R_s (P := True) (f' := (67, [some (vR 1), some (vR 56)], [vI (F 3), vR 56], LAY (u (u (u (u (u (u (u (u (shA A) 57 y0) 58 y1) 59 y2) 60 y3) 61 y4) 62 y5) 63 y6) 64 y7) (u (u (u (shF F) 6 ya) 7 yv) 12 ye), 0, 0)) hc72 4 rfl trivial ?_
    refine R_cv hc72 rfl rfl (l_sound4 (A := (u (u (u (u (u (u (u (u (shA A) 57 y0) 58 y1) 59 y2) 60 y3) 61 y4) 62 y5) 63 y6) 64 y7)) (F := (u (u (u (shF F) 6 ya) 7 yv) 12 ye)) (LENS_u (LENS_u (LENS_u (LENS_u (LENS_u (LENS_u (LENS_u (LENS_u (LENS_sh hL) (by show y0.length = (A 57).length; omega)) (by show y1.length = (A 58).length; omega)) (by show y2.length = (A 59).length; omega)) (by show y3.length = (A 60).length; omega)) (by show y4.length = (A 61).length; omega)) (by show y5.length = (A 62).length; omega)) (by show y6.length = (A 63).length; omega)) (by show y7.length = (A 64).length; omega)) (e := n) hn6.2 hyn (fun j hj q => ((eV_num (hev j hj)).1 (.inr (.inl q))))) (fun r G9 hp9 => ?_)
    obtain ⟨yd, rfl, rfl, hsd0⟩ := hp9
    have hsd : (yd = 1 ∧ sOUND (fun j => rd y0 j) (fun j => rd y1 j) (fun j => rd y2 j) (F 3) n) ∨ (yd = 0 ∧ ¬ sOUND (fun j => rd y0 j) (fun j => rd y1 j) (fun j => rd y2 j) (F 3) n) := hsd0
    have yd1 : yd = 0 ∨ yd = 1 := by omega
    refine R_s (f' := (70, [some (vR 1), some (vR 56)], [vI yd], LAY (u (u (u (u (u (u (u (u (shA A) 57 y0) 58 y1) 59 y2) 60 y3) 61 y4) 62 y5) 63 y6) 64 y7) (u (u (u (shF F) 6 ya) 7 yv) 12 ye), 0, 0)) hc72 0 rfl trivial ?_
    refine R_if (t := 80) hc72 rfl rfl (fun (c3 : ¬ yd = 0) => ?_) (fun (c3 : ¬ (¬ yd = 0)) => ?_)
    · refine R_s (P := inI ((F 0) + 1) ∧ inI (((F 0) + 1) - 1) ∧ True) (f' := (104, [some (vR 1), some (vR 56)], [vI (((F 0) + 1) - 1)], LAY (u (u (u (u (u (u (u (u (shA A) 57 y0) 58 y1) 59 y2) 60 y3) 61 y4) 62 y5) 63 y6) 64 y7) (u (u (u (u (u (shF F) 6 ya) 7 yv) 12 ye) 5 0) 0 ((F 0) + 1)), 0, 0)) hc72 14 rfl ⟨⟨by omega, by omega⟩, ⟨by omega, by omega⟩, trivial⟩ ?_
      refine R_reti hc72 rfl rfl ⟨⟨_, rfl⟩, ⟨_, _, rfl, rfl⟩, ?_⟩
      refine R_s (P := True) (f' := (6, [some (vR 88), none], [vI 6, vI (F 0)], LAY (u (u (u (u (u (u (u (u (shA A) 57 y0) 58 y1) 59 y2) 60 y3) 61 y4) 62 y5) 63 y6) 64 y7) (u (u (u (u (u (shF F) 6 ya) 7 yv) 12 ye) 5 0) 0 ((F 0) + 1)), 0, 0)) hc140 3 rfl trivial ?_
      refine R_ic (t := 16) hc140 rfl rfl (fun (_ : ¬ F 0 = 6) => ?_) (fun (z : ¬ (¬ F 0 = 6)) => absurd (show ¬ F 0 = 6 by omega) z)
      refine R_s (P := True) (f' := (17, [some (vR 88), none], [vR 88], LAY (u (u (u (u (u (u (u (u (shA A) 57 y0) 58 y1) 59 y2) 60 y3) 61 y4) 62 y5) 63 y6) 64 y7) (u (u (u (u (u (shF F) 6 ya) 7 yv) 12 ye) 5 0) 0 ((F 0) + 1)), 0, 0)) hc140 1 rfl trivial ?_
      refine R_cv hc140 rfl rfl (l_reads (A := (u (u (u (u (u (u (u (u (shA A) 57 y0) 58 y1) 59 y2) 60 y3) 61 y4) 62 y5) 63 y6) 64 y7)) (F := (u (u (u (u (u (shF F) 6 ya) 7 yv) 12 ye) 5 0) 0 ((F 0) + 1))) hT1 (hL 18 (by decide)) (hL 100 (by decide)) ⟨(show 0 ≤ F 0 by omega), (show F 0 ≤ 5 by omega)⟩) (fun r G9 hp9 => ?_)
      obtain ⟨l100, zf, za, ze, zv, rfl, rfl, k100, kk0, zab, hm0⟩ := hp9
      have zab : 0 ≤ za ∧ za ≤ F 5 := zab
      have kk : ∀ q : Int, 0 ≤ q → q < 48 * F 0 → rd l100 q = rd (A 100) q := kk0
      have hm : (zf = 1 ∧ fAIL (A 18) (F 5) za) ∨ (zf = 0 ∧ ∃ n : Nat, ze = n ∧ sUCC (A 18) (F 5) n ∧ ∀ j : Nat, j < n → eV (A 18) (F 5) j (sT (A 18) (F 5) j) (rd l100 (48 * F 0 + 8 * j)) (rd l100 (48 * F 0 + 8 * j + 1)) (rd l100 (48 * F 0 + 8 * j + 2)) (rd l100 (48 * F 0 + 8 * j + 3)) (rd l100 (48 * F 0 + 8 * j + 4)) (rd l100 (48 * F 0 + 8 * j + 5) + 1) (rd l100 (48 * F 0 + 8 * j + 6)) (rd l100 (48 * F 0 + 8 * j + 7))) := hm0
      have hx1 : yc = 0 → zf = 1 ∧ za = ya := fun q => by
        have h1 := (hcase.resolve_right (fun z => by omega)).2
        rcases hm with h2 | h2
        · exact ⟨h2.1, fAIL_eq h2.2 h1⟩
        · obtain ⟨n2, -, h3, -⟩ := h2.2
          exact absurd (sUCC_fAIL h3 h1) id
      have hx2 : yc = 1 → zf = 0 := fun q => by
        obtain ⟨n2, -, h3, -⟩ := (hcase.resolve_left (fun z => by omega)).2
        rcases hm with h2 | h2
        · exact absurd (sUCC_fAIL h3 h2.2) id
        · exact h2.1
      refine R_s (f' := (20, [some (vR 88), none], [vI ze], LAY (u (u (u (u (u (u (u (u (u (shA A) 57 y0) 58 y1) 59 y2) 60 y3) 61 y4) 62 y5) 63 y6) 64 y7) 100 l100) (u (u (u (u (u (u (u (u (shF F) 6 ya) 7 yv) 12 ye) 5 0) 0 ((F 0) + 1)) 26 zf) 25 za) 27 zv), 0, 0)) hc140 0 rfl trivial ?_
      refine R_s (P := True) (f' := (25, [some (vR 88), some (vI ze)], [vI zf], LAY (u (u (u (u (u (u (u (u (u (shA A) 57 y0) 58 y1) 59 y2) 60 y3) 61 y4) 62 y5) 63 y6) 64 y7) 100 l100) (u (u (u (u (u (u (u (u (shF F) 6 ya) 7 yv) 12 ye) 5 0) 0 ((F 0) + 1)) 26 zf) 25 za) 27 zv), 0, 0)) hc140 3 rfl trivial ?_
      refine R_if (t := 36) hc140 rfl rfl (fun (c105 : zf = 0) => ?_) (fun (c105 : ¬ (zf = 0)) => ?_)
      · obtain ⟨n2, hzn, hsu2, hem⟩ := (hm.resolve_left (fun z => by omega)).2
        have en : n2 = n := sUCC_eq hsu2 hsu
        rw [en] at hzn hem
        refine R_s (P := True) (f' := (38, [some (vR 88), some (vI ze)], [vI ze, vR 88], LAY (u (u (u (u (u (u (u (u (u (shA A) 57 y0) 58 y1) 59 y2) 60 y3) 61 y4) 62 y5) 63 y6) 64 y7) 100 l100) (u (u (u (u (u (u (u (u (shF F) 6 ya) 7 yv) 12 ye) 5 0) 0 ((F 0) + 1)) 26 zf) 25 za) 27 zv), 0, 0)) hc140 2 rfl trivial ?_
        refine R_cv hc140 rfl rfl (l_good (A := (u (u (u (u (u (u (u (u (u (shA A) 57 y0) 58 y1) 59 y2) 60 y3) 61 y4) 62 y5) 63 y6) 64 y7) 100 l100)) (F := (u (u (u (u (u (u (u (u (shF F) 6 ya) 7 yv) 12 ye) 5 0) 0 ((F 0) + 1)) 26 zf) 25 za) 27 zv)) (by show l100.length = 288; exact k100) ⟨(show 0 ≤ F 0 by omega), (show F 0 ≤ 5 by omega)⟩ ⟨p1, p2⟩ (n := n) hzn hn6.2 (fun j hj => ⟨fun q => (eV_num (hem j hj)).1 (.inr (.inl q)), (eV_num (hem j hj)).2⟩)) (fun r G9 hp9 => ?_)
        obtain ⟨zd, rfl, rfl, hgd0⟩ := hp9
        have hgd : (zd = 1 ∧ sOUND (fun j => rd l100 (48 * F 0 + 8 * j)) (fun j => rd l100 (48 * F 0 + 8 * j + 1)) (fun j => rd l100 (48 * F 0 + 8 * j + 2)) (F 3) n) ∨ (zd = 0 ∧ ¬ sOUND (fun j => rd l100 (48 * F 0 + 8 * j)) (fun j => rd l100 (48 * F 0 + 8 * j + 1)) (fun j => rd l100 (48 * F 0 + 8 * j + 2)) (F 3) n) := hgd0
        have hso : sOUND (fun j => rd y0 j) (fun j => rd y1 j) (fun j => rd y2 j) (F 3) n ↔ sOUND (fun j => rd l100 (48 * F 0 + 8 * j)) (fun j => rd l100 (48 * F 0 + 8 * j + 1)) (fun j => rd l100 (48 * F 0 + 8 * j + 2)) (F 3) n := sOUND_eq (fun j hj => by
          have z1 := hev j hj
          have z2 := hem j hj
          (try dsimp only)
          refine ⟨by rw [z1.1, z2.1], fun q => ?_⟩
          rcases q with q | q
          · have w : eK (A 18) (F 5) j (sT (A 18) (F 5) j) = 1 := z1.1.symm.trans q
            have w2 : rd l100 (48 * F 0 + 8 * j) = 1 := by rw [z2.1]; exact w
            exact ⟨by rw [(z1.2.2.1 q).1, (z2.2.2.1 w2).1], by rw [(z1.2.2.1 q).2.1, (z2.2.2.1 w2).2.1]⟩
          · have w : eK (A 18) (F 5) j (sT (A 18) (F 5) j) = 2 := z1.1.symm.trans q
            have w2 : rd l100 (48 * F 0 + 8 * j) = 2 := by rw [z2.1]; exact w
            exact ⟨by rw [(z1.2.2.2.1 q).1, (z2.2.2.2.1 w2).1], by rw [(z1.2.2.2.1 q).2, (z2.2.2.2.1 w2).2]⟩)
        have hx3 : zd = yd := by
          rcases hsd with h1 | h1 <;> rcases hgd with h2 | h2
          · omega
          · exact absurd (hso.mp h1.2) h2.2
          · exact absurd (hso.mpr h2.2) h1.2
          · omega
        refine R_s (f' := (41, [some (vR 88), some (vI ze)], [vI zd], LAY (u (u (u (u (u (u (u (u (u (shA A) 57 y0) 58 y1) 59 y2) 60 y3) 61 y4) 62 y5) 63 y6) 64 y7) 100 l100) (u (u (u (u (u (u (u (u (shF F) 6 ya) 7 yv) 12 ye) 5 0) 0 ((F 0) + 1)) 26 zf) 25 za) 27 zv), 0, 0)) hc140 0 rfl trivial ?_
        refine R_if (t := 51) hc140 rfl rfl (fun (c106 : ¬ zd = 0) => ?_) (fun (c106 : ¬ (¬ zd = 0)) => ?_)
        · refine R_s (P := (0 ≤ F 0 ∧ F 0 < ((A 99).length : Int)) ∧ inI ((F 0) + 1) ∧ inI (((F 0) + 1) - 1) ∧ True) (f' := (82, [some (vR 88), some (vI ze)], [vI (((F 0) + 1) - 1)], LAY (u (u (u (u (u (u (u (u (u (u (shA A) 57 y0) 58 y1) 59 y2) 60 y3) 61 y4) 62 y5) 63 y6) 64 y7) 100 l100) 99 (wr (A 99) (F 0) ze)) (u (u (u (u (u (u (u (u (u (u (shF F) 6 ya) 7 yv) 12 ye) 5 0) 0 ((F 0) + 1)) 26 zf) 25 za) 27 zv) 24 0) 21 ((F 0) + 1)), 0, 0)) hc140 19 rfl ⟨⟨by omega, by omega⟩, ⟨by omega, by omega⟩, ⟨by omega, by omega⟩, trivial⟩ ?_
          refine R_reti hc140 rfl rfl ?_
          first
            | (exfalso; omega; done)
            | exact ⟨rfl, (u (u (u (u (u (u (u (u (u (u A 57 y0) 58 y1) 59 y2) 60 y3) 61 y4) 62 y5) 63 y6) 64 y7) 100 l100) 99 (wr (A 99) (F 0) ze)), (u (u (u (u (u (u (u (u F 6 ya) 7 yv) 12 ye) 5 0) 0 ((F 0) + 1)) 26 zf) 25 za) 27 zv), rfl, rfl, ⟨(LENS_u (LENS_u (LENS_u (LENS_u (LENS_u (LENS_u (LENS_u (LENS_u (LENS_u (LENS_u hL (by show (y0).length = (A 57).length; rw [ly0, hL 57 (by decide)]; rfl)) (by show (y1).length = (A 58).length; rw [ly1, hL 58 (by decide)]; rfl)) (by show (y2).length = (A 59).length; rw [ly2, hL 59 (by decide)]; rfl)) (by show (y3).length = (A 60).length; rw [ly3, hL 60 (by decide)]; rfl)) (by show (y4).length = (A 61).length; rw [ly4, hL 61 (by decide)]; rfl)) (by show (y5).length = (A 62).length; rw [ly5, hL 62 (by decide)]; rfl)) (by show (y6).length = (A 63).length; rw [ly6, hL 63 (by decide)]; rfl)) (by show (y7).length = (A 64).length; rw [ly7, hL 64 (by decide)]; rfl)) (by show (l100).length = (A 100).length; rw [k100, hL 100 (by decide)]; rfl)) (by show (wr (A 99) (F 0) ze).length = (A 99).length; simp only [wr_len])), hR0.2.1, hR0.2.2.1, ⟨(show (0 : Int) ≤ 0 by decide), (show (0 : Int) ≤ 120 by decide)⟩, ⟨⟨(show 0 ≤ F 0 + 1 by omega), (show F 0 + 1 ≤ 6 by omega)⟩, fun _ => DEED_keep (by decide) (hDE2.1 (by omega)) (by show rd (wr (A 99) (F 0) ze) 0 = rd (A 99) 0; exact rd_wr_n (by omega) (by decide) (by omega)) (fun q h1 h2 => kk q (by omega) (by omega)), fun _ => DEED_keep (by decide) (hDE2.2.1 (by omega)) (by show rd (wr (A 99) (F 0) ze) 1 = rd (A 99) 1; exact rd_wr_n (by omega) (by decide) (by omega)) (fun q h1 h2 => kk q (by omega) (by omega)), fun _ => DEED_keep (by decide) (hDE2.2.2.1 (by omega)) (by show rd (wr (A 99) (F 0) ze) 2 = rd (A 99) 2; exact rd_wr_n (by omega) (by decide) (by omega)) (fun q h1 h2 => kk q (by omega) (by omega)), fun _ => DEED_keep (by decide) (hDE2.2.2.2.1 (by omega)) (by show rd (wr (A 99) (F 0) ze) 3 = rd (A 99) 3; exact rd_wr_n (by omega) (by decide) (by omega)) (fun q h1 h2 => kk q (by omega) (by omega)), fun _ => by
                  have z := DEED_new (mE := wr (A 99) (F 0) ze) (d := 4) hsu hev (by rw [hd] at hem; exact hem) (by rw [hd, rd_wr_s (by omega) (by rw [hL 99 (by decide)]; decide)]; exact hzn) (hsd.resolve_right (fun z => by omega)).2
                  rw [← hyn] at z
                  exact z, fun q => absurd (show (5 : Int) < F 0 + 1 from q) (by omega)⟩, hR0.2.2.2.2.2.1, hR0.2.2.2.2.2.2.1, hR0.2.2.2.2.2.2.2.1, hR0.2.2.2.2.2.2.2.2.1, (REFU_c hR0.2.2.2.2.2.2.2.2.2)⟩⟩
        · exact absurd (show ¬ zd = 0 by rw [hx3]; assumption) (by assumption)
      · exfalso
        omega
    · refine R_s (P := True) (f' := (76, [some (vR 1), some (vR 56)], [vI (-7), vR 1], LAY (u (u (u (u (u (u (u (u (shA A) 57 y0) 58 y1) 59 y2) 60 y3) 61 y4) 62 y5) 63 y6) 64 y7) (u (u (u (shF F) 6 ya) 7 yv) 12 ye), 0, 0)) hc72 2 rfl trivial ?_
      refine R_cv hc72 rfl rfl ?_ (fun r G h => h)
      refine R_s (P := True) (f' := (3, [some (vR 1), some (vI (-7))], [vI (-2), vI (-7)], LAY (u (u (u (u (u (u (u (u (shA A) 57 y0) 58 y1) 59 y2) 60 y3) 61 y4) 62 y5) 63 y6) 64 y7) (u (u (u (shF F) 6 ya) 7 yv) 12 ye), 0, 0)) hc93 2 rfl trivial ?_
      refine R_ic (t := 23) hc93 rfl rfl (fun (z : (-2) < (-7)) => absurd z (by decide)) (fun (_ : ¬ ((-2) < (-7))) => ?_)
      refine R_s (P := True) (f' := (9, [some (vR 1), some (vI (-7))], [vI (-8), vI (-7)], LAY (u (u (u (u (u (u (u (u (shA A) 57 y0) 58 y1) 59 y2) 60 y3) 61 y4) 62 y5) 63 y6) 64 y7) (u (u (u (shF F) 6 ya) 7 yv) 12 ye), 0, 0)) hc93 2 rfl trivial ?_
      refine R_ic (t := 23) hc93 rfl rfl (fun (z : (-7) < (-8)) => absurd z (by decide)) (fun (_ : ¬ ((-7) < (-8))) => ?_)
      refine R_s (P := inI 7 ∧ (0 ≤ 7 ∧ 7 < ((A 87).length : Int)) ∧ inI ((rd (A 87) 7) + 1) ∧ (0 ≤ 7 ∧ 7 < ((A 87).length : Int)) ∧ True) (f' := (24, [some (vR 1), some (vI (-7))], [vI (-7)], LAY (u (u (u (u (u (u (u (u (u (shA A) 57 y0) 58 y1) 59 y2) 60 y3) 61 y4) 62 y5) 63 y6) 64 y7) 87 (wr (A 87) 7 ((rd (A 87) 7) + 1))) (u (u (u (shF F) 6 ya) 7 yv) 12 ye), 0, 0)) hc93 10 rfl ⟨⟨by omega, by omega⟩, ⟨by omega, by omega⟩, ⟨by omega, by omega⟩, ⟨by omega, by omega⟩, trivial⟩ ?_
      refine R_reti hc93 rfl rfl ?_
      refine R_s (f' := (79, [some (vR 1), some (vR 56)], [vI (-7)], LAY (u (u (u (u (u (u (u (u (u (shA A) 57 y0) 58 y1) 59 y2) 60 y3) 61 y4) 62 y5) 63 y6) 64 y7) 87 (wr (A 87) 7 ((rd (A 87) 7) + 1))) (u (u (u (shF F) 6 ya) 7 yv) 12 ye), 0, 0)) hc72 0 rfl trivial ?_
      refine R_reti hc72 rfl rfl ⟨⟨_, rfl⟩, ⟨_, _, rfl, rfl⟩, ?_⟩
      refine R_s (P := True) (f' := (6, [some (vR 88), none], [vI 6, vI (F 0)], LAY (u (u (u (u (u (u (u (u (u (shA A) 57 y0) 58 y1) 59 y2) 60 y3) 61 y4) 62 y5) 63 y6) 64 y7) 87 (wr (A 87) 7 ((rd (A 87) 7) + 1))) (u (u (u (shF F) 6 ya) 7 yv) 12 ye), 0, 0)) hc140 3 rfl trivial ?_
      refine R_ic (t := 16) hc140 rfl rfl (fun (_ : ¬ F 0 = 6) => ?_) (fun (z : ¬ (¬ F 0 = 6)) => absurd (show ¬ F 0 = 6 by omega) z)
      refine R_s (P := True) (f' := (17, [some (vR 88), none], [vR 88], LAY (u (u (u (u (u (u (u (u (u (shA A) 57 y0) 58 y1) 59 y2) 60 y3) 61 y4) 62 y5) 63 y6) 64 y7) 87 (wr (A 87) 7 ((rd (A 87) 7) + 1))) (u (u (u (shF F) 6 ya) 7 yv) 12 ye), 0, 0)) hc140 1 rfl trivial ?_
      refine R_cv hc140 rfl rfl (l_reads (A := (u (u (u (u (u (u (u (u (u (shA A) 57 y0) 58 y1) 59 y2) 60 y3) 61 y4) 62 y5) 63 y6) 64 y7) 87 (wr (A 87) 7 ((rd (A 87) 7) + 1)))) (F := (u (u (u (shF F) 6 ya) 7 yv) 12 ye)) hT1 (hL 18 (by decide)) (hL 100 (by decide)) ⟨(show 0 ≤ F 0 by omega), (show F 0 ≤ 5 by omega)⟩) (fun r G9 hp9 => ?_)
      obtain ⟨l100, zf, za, ze, zv, rfl, rfl, k100, kk0, zab, hm0⟩ := hp9
      have zab : 0 ≤ za ∧ za ≤ F 5 := zab
      have kk : ∀ q : Int, 0 ≤ q → q < 48 * F 0 → rd l100 q = rd (A 100) q := kk0
      have hm : (zf = 1 ∧ fAIL (A 18) (F 5) za) ∨ (zf = 0 ∧ ∃ n : Nat, ze = n ∧ sUCC (A 18) (F 5) n ∧ ∀ j : Nat, j < n → eV (A 18) (F 5) j (sT (A 18) (F 5) j) (rd l100 (48 * F 0 + 8 * j)) (rd l100 (48 * F 0 + 8 * j + 1)) (rd l100 (48 * F 0 + 8 * j + 2)) (rd l100 (48 * F 0 + 8 * j + 3)) (rd l100 (48 * F 0 + 8 * j + 4)) (rd l100 (48 * F 0 + 8 * j + 5) + 1) (rd l100 (48 * F 0 + 8 * j + 6)) (rd l100 (48 * F 0 + 8 * j + 7))) := hm0
      have hx1 : yc = 0 → zf = 1 ∧ za = ya := fun q => by
        have h1 := (hcase.resolve_right (fun z => by omega)).2
        rcases hm with h2 | h2
        · exact ⟨h2.1, fAIL_eq h2.2 h1⟩
        · obtain ⟨n2, -, h3, -⟩ := h2.2
          exact absurd (sUCC_fAIL h3 h1) id
      have hx2 : yc = 1 → zf = 0 := fun q => by
        obtain ⟨n2, -, h3, -⟩ := (hcase.resolve_left (fun z => by omega)).2
        rcases hm with h2 | h2
        · exact absurd (sUCC_fAIL h3 h2.2) id
        · exact h2.1
      refine R_s (f' := (20, [some (vR 88), none], [vI ze], LAY (u (u (u (u (u (u (u (u (u (u (shA A) 57 y0) 58 y1) 59 y2) 60 y3) 61 y4) 62 y5) 63 y6) 64 y7) 87 (wr (A 87) 7 ((rd (A 87) 7) + 1))) 100 l100) (u (u (u (u (u (u (shF F) 6 ya) 7 yv) 12 ye) 26 zf) 25 za) 27 zv), 0, 0)) hc140 0 rfl trivial ?_
      refine R_s (P := True) (f' := (25, [some (vR 88), some (vI ze)], [vI zf], LAY (u (u (u (u (u (u (u (u (u (u (shA A) 57 y0) 58 y1) 59 y2) 60 y3) 61 y4) 62 y5) 63 y6) 64 y7) 87 (wr (A 87) 7 ((rd (A 87) 7) + 1))) 100 l100) (u (u (u (u (u (u (shF F) 6 ya) 7 yv) 12 ye) 26 zf) 25 za) 27 zv), 0, 0)) hc140 3 rfl trivial ?_
      refine R_if (t := 36) hc140 rfl rfl (fun (c107 : zf = 0) => ?_) (fun (c107 : ¬ (zf = 0)) => ?_)
      · obtain ⟨n2, hzn, hsu2, hem⟩ := (hm.resolve_left (fun z => by omega)).2
        have en : n2 = n := sUCC_eq hsu2 hsu
        rw [en] at hzn hem
        refine R_s (P := True) (f' := (38, [some (vR 88), some (vI ze)], [vI ze, vR 88], LAY (u (u (u (u (u (u (u (u (u (u (shA A) 57 y0) 58 y1) 59 y2) 60 y3) 61 y4) 62 y5) 63 y6) 64 y7) 87 (wr (A 87) 7 ((rd (A 87) 7) + 1))) 100 l100) (u (u (u (u (u (u (shF F) 6 ya) 7 yv) 12 ye) 26 zf) 25 za) 27 zv), 0, 0)) hc140 2 rfl trivial ?_
        refine R_cv hc140 rfl rfl (l_good (A := (u (u (u (u (u (u (u (u (u (u (shA A) 57 y0) 58 y1) 59 y2) 60 y3) 61 y4) 62 y5) 63 y6) 64 y7) 87 (wr (A 87) 7 ((rd (A 87) 7) + 1))) 100 l100)) (F := (u (u (u (u (u (u (shF F) 6 ya) 7 yv) 12 ye) 26 zf) 25 za) 27 zv)) (by show l100.length = 288; exact k100) ⟨(show 0 ≤ F 0 by omega), (show F 0 ≤ 5 by omega)⟩ ⟨p1, p2⟩ (n := n) hzn hn6.2 (fun j hj => ⟨fun q => (eV_num (hem j hj)).1 (.inr (.inl q)), (eV_num (hem j hj)).2⟩)) (fun r G9 hp9 => ?_)
        obtain ⟨zd, rfl, rfl, hgd0⟩ := hp9
        have hgd : (zd = 1 ∧ sOUND (fun j => rd l100 (48 * F 0 + 8 * j)) (fun j => rd l100 (48 * F 0 + 8 * j + 1)) (fun j => rd l100 (48 * F 0 + 8 * j + 2)) (F 3) n) ∨ (zd = 0 ∧ ¬ sOUND (fun j => rd l100 (48 * F 0 + 8 * j)) (fun j => rd l100 (48 * F 0 + 8 * j + 1)) (fun j => rd l100 (48 * F 0 + 8 * j + 2)) (F 3) n) := hgd0
        have hso : sOUND (fun j => rd y0 j) (fun j => rd y1 j) (fun j => rd y2 j) (F 3) n ↔ sOUND (fun j => rd l100 (48 * F 0 + 8 * j)) (fun j => rd l100 (48 * F 0 + 8 * j + 1)) (fun j => rd l100 (48 * F 0 + 8 * j + 2)) (F 3) n := sOUND_eq (fun j hj => by
          have z1 := hev j hj
          have z2 := hem j hj
          (try dsimp only)
          refine ⟨by rw [z1.1, z2.1], fun q => ?_⟩
          rcases q with q | q
          · have w : eK (A 18) (F 5) j (sT (A 18) (F 5) j) = 1 := z1.1.symm.trans q
            have w2 : rd l100 (48 * F 0 + 8 * j) = 1 := by rw [z2.1]; exact w
            exact ⟨by rw [(z1.2.2.1 q).1, (z2.2.2.1 w2).1], by rw [(z1.2.2.1 q).2.1, (z2.2.2.1 w2).2.1]⟩
          · have w : eK (A 18) (F 5) j (sT (A 18) (F 5) j) = 2 := z1.1.symm.trans q
            have w2 : rd l100 (48 * F 0 + 8 * j) = 2 := by rw [z2.1]; exact w
            exact ⟨by rw [(z1.2.2.2.1 q).1, (z2.2.2.2.1 w2).1], by rw [(z1.2.2.2.1 q).2, (z2.2.2.2.1 w2).2]⟩)
        have hx3 : zd = yd := by
          rcases hsd with h1 | h1 <;> rcases hgd with h2 | h2
          · omega
          · exact absurd (hso.mp h1.2) h2.2
          · exact absurd (hso.mpr h2.2) h1.2
          · omega
        refine R_s (f' := (41, [some (vR 88), some (vI ze)], [vI zd], LAY (u (u (u (u (u (u (u (u (u (u (shA A) 57 y0) 58 y1) 59 y2) 60 y3) 61 y4) 62 y5) 63 y6) 64 y7) 87 (wr (A 87) 7 ((rd (A 87) 7) + 1))) 100 l100) (u (u (u (u (u (u (shF F) 6 ya) 7 yv) 12 ye) 26 zf) 25 za) 27 zv), 0, 0)) hc140 0 rfl trivial ?_
        refine R_if (t := 51) hc140 rfl rfl (fun (c108 : ¬ zd = 0) => ?_) (fun (c108 : ¬ (¬ zd = 0)) => ?_)
        · exact absurd (show ¬ yd = 0 by rw [← hx3]; assumption) (by assumption)
        · refine R_s (P := True) (f' := (47, [some (vR 88), some (vI ze)], [vI (-7), vR 88], LAY (u (u (u (u (u (u (u (u (u (u (shA A) 57 y0) 58 y1) 59 y2) 60 y3) 61 y4) 62 y5) 63 y6) 64 y7) 87 (wr (A 87) 7 ((rd (A 87) 7) + 1))) 100 l100) (u (u (u (u (u (u (shF F) 6 ya) 7 yv) 12 ye) 26 zf) 25 za) 27 zv), 0, 0)) hc140 2 rfl trivial ?_
          refine R_cv hc140 rfl rfl ?_ (fun r G h => h)
          refine R_s (P := inI 7 ∧ (0 ≤ 7 ∧ 7 < ((A 87).length : Int)) ∧ inI ((rd (A 87) 7) + 1) ∧ (0 ≤ 7 ∧ 7 < ((A 87).length : Int)) ∧ True) (f' := (12, [some (vR 88), some (vI (-7))], [vI (-7)], LAY (u (u (u (u (u (u (u (u (u (u (u (shA A) 57 y0) 58 y1) 59 y2) 60 y3) 61 y4) 62 y5) 63 y6) 64 y7) 87 (wr (A 87) 7 ((rd (A 87) 7) + 1))) 100 l100) 89 (wr (A 87) 7 ((rd (A 87) 7) + 1))) (u (u (u (u (u (u (shF F) 6 ya) 7 yv) 12 ye) 26 zf) 25 za) 27 zv), 0, 0)) hc105 10 rfl ⟨⟨by omega, by omega⟩, ⟨by omega, by omega⟩, ⟨by omega, by omega⟩, ⟨by omega, by omega⟩, trivial⟩ ?_
          refine R_reti hc105 rfl rfl ?_
          refine R_s (f' := (50, [some (vR 88), some (vI ze)], [vI (-7)], LAY (u (u (u (u (u (u (u (u (u (u (u (shA A) 57 y0) 58 y1) 59 y2) 60 y3) 61 y4) 62 y5) 63 y6) 64 y7) 87 (wr (A 87) 7 ((rd (A 87) 7) + 1))) 100 l100) 89 (wr (A 87) 7 ((rd (A 87) 7) + 1))) (u (u (u (u (u (u (shF F) 6 ya) 7 yv) 12 ye) 26 zf) 25 za) 27 zv), 0, 0)) hc140 0 rfl trivial ?_
          refine R_reti hc140 rfl rfl ?_
          first
            | (exfalso; omega; done)
            | exact ⟨rfl, (u (u (u (u (u (u (u (u (u (u A 57 y0) 58 y1) 59 y2) 60 y3) 61 y4) 62 y5) 63 y6) 64 y7) 87 (wr (A 87) 7 ((rd (A 87) 7) + 1))) 100 l100), (u (u (u (u (u (u F 6 ya) 7 yv) 12 ye) 26 zf) 25 za) 27 zv), rfl, rfl, ⟨(LENS_u (LENS_u (LENS_u (LENS_u (LENS_u (LENS_u (LENS_u (LENS_u (LENS_u (LENS_u hL (by show (y0).length = (A 57).length; rw [ly0, hL 57 (by decide)]; rfl)) (by show (y1).length = (A 58).length; rw [ly1, hL 58 (by decide)]; rfl)) (by show (y2).length = (A 59).length; rw [ly2, hL 59 (by decide)]; rfl)) (by show (y3).length = (A 60).length; rw [ly3, hL 60 (by decide)]; rfl)) (by show (y4).length = (A 61).length; rw [ly4, hL 61 (by decide)]; rfl)) (by show (y5).length = (A 62).length; rw [ly5, hL 62 (by decide)]; rfl)) (by show (y6).length = (A 63).length; rw [ly6, hL 63 (by decide)]; rfl)) (by show (y7).length = (A 64).length; rw [ly7, hL 64 (by decide)]; rfl)) (wr_len _ _ _)) (by show (l100).length = (A 100).length; rw [k100, hL 100 (by decide)]; rfl)), hR0.2.1, hR0.2.2.1, hR0.2.2.2.1, ⟨⟨(show 0 ≤ F 0 by omega), (show F 0 ≤ 6 by omega)⟩, fun _ => DEED_keep (by decide) (hDE2.1 (by omega)) rfl (fun q h1 h2 => kk q (by omega) (by omega)), fun _ => DEED_keep (by decide) (hDE2.2.1 (by omega)) rfl (fun q h1 h2 => kk q (by omega) (by omega)), fun _ => DEED_keep (by decide) (hDE2.2.2.1 (by omega)) rfl (fun q h1 h2 => kk q (by omega) (by omega)), fun _ => DEED_keep (by decide) (hDE2.2.2.2.1 (by omega)) rfl (fun q h1 h2 => kk q (by omega) (by omega)), fun q => absurd (show (4 : Int) < F 0 from q) (by omega), fun q => absurd (show (5 : Int) < F 0 from q) (by omega)⟩, hR0.2.2.2.2.2.1, hR0.2.2.2.2.2.2.1, hR0.2.2.2.2.2.2.2.1, hR0.2.2.2.2.2.2.2.2.1, (REFU_up hR0.2.2.2.2.2.2.2.2.2 (hL 87 (by decide)) (by decide) (by decide))⟩⟩
      · exfalso
        omega
  · refine R_s (P := inI ((-10) - ya) ∧ True) (f' := (58, [some (vR 1), some (vR 56)], [vI ((-10) - ya)], LAY (u (u (u (u (u (u (u (u (shA A) 57 y0) 58 y1) 59 y2) 60 y3) 61 y4) 62 y5) 63 y6) 64 y7) (u (u (u (shF F) 6 ya) 7 yv) 12 ye), 0, 0)) hc72 5 rfl ⟨⟨by omega, by omega⟩, trivial⟩ ?_
    refine R_reti hc72 rfl rfl ⟨⟨_, rfl⟩, ⟨_, _, rfl, rfl⟩, ?_⟩
    refine R_s (P := True) (f' := (6, [some (vR 88), none], [vI 6, vI (F 0)], LAY (u (u (u (u (u (u (u (u (shA A) 57 y0) 58 y1) 59 y2) 60 y3) 61 y4) 62 y5) 63 y6) 64 y7) (u (u (u (shF F) 6 ya) 7 yv) 12 ye), 0, 0)) hc140 3 rfl trivial ?_
    refine R_ic (t := 16) hc140 rfl rfl (fun (_ : ¬ F 0 = 6) => ?_) (fun (z : ¬ (¬ F 0 = 6)) => absurd (show ¬ F 0 = 6 by omega) z)
    refine R_s (P := True) (f' := (17, [some (vR 88), none], [vR 88], LAY (u (u (u (u (u (u (u (u (shA A) 57 y0) 58 y1) 59 y2) 60 y3) 61 y4) 62 y5) 63 y6) 64 y7) (u (u (u (shF F) 6 ya) 7 yv) 12 ye), 0, 0)) hc140 1 rfl trivial ?_
    refine R_cv hc140 rfl rfl (l_reads (A := (u (u (u (u (u (u (u (u (shA A) 57 y0) 58 y1) 59 y2) 60 y3) 61 y4) 62 y5) 63 y6) 64 y7)) (F := (u (u (u (shF F) 6 ya) 7 yv) 12 ye)) hT1 (hL 18 (by decide)) (hL 100 (by decide)) ⟨(show 0 ≤ F 0 by omega), (show F 0 ≤ 5 by omega)⟩) (fun r G9 hp9 => ?_)
    obtain ⟨l100, zf, za, ze, zv, rfl, rfl, k100, kk0, zab, hm0⟩ := hp9
    have zab : 0 ≤ za ∧ za ≤ F 5 := zab
    have kk : ∀ q : Int, 0 ≤ q → q < 48 * F 0 → rd l100 q = rd (A 100) q := kk0
    have hm : (zf = 1 ∧ fAIL (A 18) (F 5) za) ∨ (zf = 0 ∧ ∃ n : Nat, ze = n ∧ sUCC (A 18) (F 5) n ∧ ∀ j : Nat, j < n → eV (A 18) (F 5) j (sT (A 18) (F 5) j) (rd l100 (48 * F 0 + 8 * j)) (rd l100 (48 * F 0 + 8 * j + 1)) (rd l100 (48 * F 0 + 8 * j + 2)) (rd l100 (48 * F 0 + 8 * j + 3)) (rd l100 (48 * F 0 + 8 * j + 4)) (rd l100 (48 * F 0 + 8 * j + 5) + 1) (rd l100 (48 * F 0 + 8 * j + 6)) (rd l100 (48 * F 0 + 8 * j + 7))) := hm0
    have hx1 : yc = 0 → zf = 1 ∧ za = ya := fun q => by
      have h1 := (hcase.resolve_right (fun z => by omega)).2
      rcases hm with h2 | h2
      · exact ⟨h2.1, fAIL_eq h2.2 h1⟩
      · obtain ⟨n2, -, h3, -⟩ := h2.2
        exact absurd (sUCC_fAIL h3 h1) id
    have hx2 : yc = 1 → zf = 0 := fun q => by
      obtain ⟨n2, -, h3, -⟩ := (hcase.resolve_left (fun z => by omega)).2
      rcases hm with h2 | h2
      · exact absurd (sUCC_fAIL h3 h2.2) id
      · exact h2.1
    refine R_s (f' := (20, [some (vR 88), none], [vI ze], LAY (u (u (u (u (u (u (u (u (u (shA A) 57 y0) 58 y1) 59 y2) 60 y3) 61 y4) 62 y5) 63 y6) 64 y7) 100 l100) (u (u (u (u (u (u (shF F) 6 ya) 7 yv) 12 ye) 26 zf) 25 za) 27 zv), 0, 0)) hc140 0 rfl trivial ?_
    refine R_s (P := True) (f' := (25, [some (vR 88), some (vI ze)], [vI zf], LAY (u (u (u (u (u (u (u (u (u (shA A) 57 y0) 58 y1) 59 y2) 60 y3) 61 y4) 62 y5) 63 y6) 64 y7) 100 l100) (u (u (u (u (u (u (shF F) 6 ya) 7 yv) 12 ye) 26 zf) 25 za) 27 zv), 0, 0)) hc140 3 rfl trivial ?_
    refine R_if (t := 36) hc140 rfl rfl (fun (c107 : zf = 0) => ?_) (fun (c107 : ¬ (zf = 0)) => ?_)
    · exfalso
      omega
    · refine R_s (P := inI ((-10) - za) ∧ True) (f' := (35, [some (vR 88), some (vI ze)], [vI ((-10) - za)], LAY (u (u (u (u (u (u (u (u (u (shA A) 57 y0) 58 y1) 59 y2) 60 y3) 61 y4) 62 y5) 63 y6) 64 y7) 100 l100) (u (u (u (u (u (u (shF F) 6 ya) 7 yv) 12 ye) 26 zf) 25 za) 27 zv), 0, 0)) hc140 4 rfl ⟨⟨by omega, by omega⟩, trivial⟩ ?_
      refine R_reti hc140 rfl rfl ?_
      first
        | (exfalso; omega; done)
        | exact ⟨(by rw [show (-10) - za = (-10) - ya by omega]), (u (u (u (u (u (u (u (u (u A 57 y0) 58 y1) 59 y2) 60 y3) 61 y4) 62 y5) 63 y6) 64 y7) 100 l100), (u (u (u (u (u (u F 6 ya) 7 yv) 12 ye) 26 zf) 25 za) 27 zv), rfl, rfl, ⟨(LENS_u (LENS_u (LENS_u (LENS_u (LENS_u (LENS_u (LENS_u (LENS_u (LENS_u hL (by show (y0).length = (A 57).length; rw [ly0, hL 57 (by decide)]; rfl)) (by show (y1).length = (A 58).length; rw [ly1, hL 58 (by decide)]; rfl)) (by show (y2).length = (A 59).length; rw [ly2, hL 59 (by decide)]; rfl)) (by show (y3).length = (A 60).length; rw [ly3, hL 60 (by decide)]; rfl)) (by show (y4).length = (A 61).length; rw [ly4, hL 61 (by decide)]; rfl)) (by show (y5).length = (A 62).length; rw [ly5, hL 62 (by decide)]; rfl)) (by show (y6).length = (A 63).length; rw [ly6, hL 63 (by decide)]; rfl)) (by show (y7).length = (A 64).length; rw [ly7, hL 64 (by decide)]; rfl)) (by show (l100).length = (A 100).length; rw [k100, hL 100 (by decide)]; rfl)), hR0.2.1, hR0.2.2.1, hR0.2.2.2.1, ⟨⟨(show 0 ≤ F 0 by omega), (show F 0 ≤ 6 by omega)⟩, fun _ => DEED_keep (by decide) (hDE2.1 (by omega)) rfl (fun q h1 h2 => kk q (by omega) (by omega)), fun _ => DEED_keep (by decide) (hDE2.2.1 (by omega)) rfl (fun q h1 h2 => kk q (by omega) (by omega)), fun _ => DEED_keep (by decide) (hDE2.2.2.1 (by omega)) rfl (fun q h1 h2 => kk q (by omega) (by omega)), fun _ => DEED_keep (by decide) (hDE2.2.2.2.1 (by omega)) rfl (fun q h1 h2 => kk q (by omega) (by omega)), fun q => absurd (show (4 : Int) < F 0 from q) (by omega), fun q => absurd (show (5 : Int) < F 0 from q) (by omega)⟩, hR0.2.2.2.2.2.1, hR0.2.2.2.2.2.2.1, hR0.2.2.2.2.2.2.2.1, hR0.2.2.2.2.2.2.2.2.1, (REFU_c hR0.2.2.2.2.2.2.2.2.2)⟩⟩

theorem op_deed_5 {c : Int} {A : Nat → List Int} {F : Nat → Int} (hR : REL c A F) (hc : c < 512) (hd : F 0 = 5) : R 72 (0, L0 72 [vR 1], [], LAY (shA A) (shF F), 0, 0) (fun r G => (∃ x, r = some (vI x)) ∧ (∃ (A1 : Nat → List Int) (F1 : Nat → Int), G = LAY A1 F1 ∧ A1 0 = A 0) ∧ R 140 (0, L0 140 [vR 88], [], G, 0, 0) (fun r2 G2 => r2 = r ∧ ∃ (A' : Nat → List Int) (F' : Nat → Int), G2 = LAY (shA A') (shF F') ∧ A' 0 = A 0 ∧ REL (c + 1) A' F')) := by
  have hR0 := hR
  obtain ⟨hL, hPE, hTH, hTP, hDE, hLE, hNO, hAC, hRO, hRE⟩ := hR
  have h87 : (A 87).length = 9 := hL 87 (by decide)
  have h99 : (A 99).length = 6 := hL 99 (by decide)
  have r2 := REFU_at hRE (k := 2) (by decide) (by decide) hc
  have r3 := REFU_at hRE (k := 3) (by decide) (by decide) hc
  have r4 := REFU_at hRE (k := 4) (by decide) (by decide) hc
  have r5 := REFU_at hRE (k := 5) (by decide) (by decide) hc
  have r6 := REFU_at hRE (k := 6) (by decide) (by decide) hc
  have r7 := REFU_at hRE (k := 7) (by decide) (by decide) hc
  have r8 := REFU_at hRE (k := 8) (by decide) (by decide) hc
  obtain ⟨t1, t2, t3, t4, t5, t6⟩ := hTH
  obtain ⟨p1, p2, p3, p4, p5, p6⟩ := hPE
  have hT1 := hR0.2.2.2.1
  have hDE2 := hR0.2.2.2.2.1.2
  have x0 : (A 66).length = 6 := hL 66 (by decide)
  have x1 : (A 67).length = 6 := hL 67 (by decide)
  have x2 : (A 68).length = 6 := hL 68 (by decide)
  have x3 : (A 69).length = 6 := hL 69 (by decide)
  have x4 : (A 70).length = 6 := hL 70 (by decide)
  have x5 : (A 71).length = 6 := hL 71 (by decide)
  have x6 : (A 72).length = 6 := hL 72 (by decide)
  have x7 : (A 73).length = 6 := hL 73 (by decide)
  refine R_s (P := True) (f' := (6, [some (vR 1), none], [vI 6, vI (F 0)], LAY (shA A) (shF F), 0, 0)) hc72 3 rfl trivial ?_
  refine R_ic (t := 16) hc72 rfl rfl (fun (_ : F 0 < 6) => ?_) (fun (z : ¬ (F 0 < 6)) => absurd (show F 0 < 6 by omega) z)
  refine R_s (P := True) (f' := (24, [some (vR 1), none], [vI (F 0), vR 19], LAY (shA A) (shF F), 0, 0)) hc72 4 rfl trivial ?_
  rw [hd]
  refine R_s (P := (0 ≤ (5 : Int) ∧ (5 : Int) < (([some 20, some 29, some 38, some 47, some 56, some 65] : List (Option Nat)).length : Int)) ∧ True) (f' := (42, [some (vR 1), some (vR 65)], [vR 65, vR 17], LAY (shA A) (shF F), 0, 0)) hc72 7 rfl ⟨(by decide), trivial⟩ ?_
  refine R_cv hc72 rfl rfl (l_rdeed5 (A := shA A) (F := shF F) (LENS_sh hL) hT1) (fun r G9 hp9 => ?_)
  obtain ⟨yc, y0, y1, y2, y3, y4, y5, y6, y7, ya, yv, ye, rfl, rfl, ly0, ly1, ly2, ly3, ly4, ly5, ly6, ly7, yab, hcase0⟩ := hp9
  have yab : 0 ≤ ya ∧ ya ≤ F 5 := yab
  have hcase : (yc = 0 ∧ fAIL (A 18) (F 5) ya) ∨ (yc = 1 ∧ ∃ n : Nat, ye = n ∧ sUCC (A 18) (F 5) n ∧ ∀ j : Nat, j < n → eV (A 18) (F 5) j (sT (A 18) (F 5) j) (rd y0 j) (rd y1 j) (rd y2 j) (rd y3 j) (rd y4 j) (rd y5 j) (rd y6 j) (rd y7 j)) := hcase0
  have yc1 : yc = 0 ∨ yc = 1 := by omega
  refine R_s (f' := (45, [some (vR 1), some (vR 65)], [vI yc], LAY (u (u (u (u (u (u (u (u (shA A) 66 y0) 67 y1) 68 y2) 69 y3) 70 y4) 71 y5) 72 y6) 73 y7) (u (u (u (shF F) 6 ya) 7 yv) 13 ye), 0, 0)) hc72 0 rfl trivial ?_
  refine R_if (t := 59) hc72 rfl rfl (fun (c2 : ¬ yc = 0) => ?_) (fun (c2 : ¬ (¬ yc = 0)) => ?_)
  · obtain ⟨n, hyn, hsu, hev⟩ := (hcase.resolve_left (fun z => by omega)).2
    have hn6 : 1 ≤ n ∧ n ≤ 6 := by
      obtain ⟨i0, e0, h6, -⟩ := hsu
      omega
    refine R_s (P := True) (f' := (67, [some (vR 1), some (vR 65)], [vI (F 3), vR 65], LAY (u (u (u (u (u (u (u (u (shA A) 66 y0) 67 y1) 68 y2) 69 y3) 70 y4) 71 y5) 72 y6) 73 y7) (u (u (u (shF F) 6 ya) 7 yv) 13 ye), 0, 0)) hc72 4 rfl trivial ?_
    refine R_cv hc72 rfl rfl (l_sound5 (A := (u (u (u (u (u (u (u (u (shA A) 66 y0) 67 y1) 68 y2) 69 y3) 70 y4) 71 y5) 72 y6) 73 y7)) (F := (u (u (u (shF F) 6 ya) 7 yv) 13 ye)) (LENS_u (LENS_u (LENS_u (LENS_u (LENS_u (LENS_u (LENS_u (LENS_u (LENS_sh hL) (by show y0.length = (A 66).length; omega)) (by show y1.length = (A 67).length; omega)) (by show y2.length = (A 68).length; omega)) (by show y3.length = (A 69).length; omega)) (by show y4.length = (A 70).length; omega)) (by show y5.length = (A 71).length; omega)) (by show y6.length = (A 72).length; omega)) (by show y7.length = (A 73).length; omega)) (e := n) hn6.2 hyn (fun j hj q => ((eV_num (hev j hj)).1 (.inr (.inl q))))) (fun r G9 hp9 => ?_)
    obtain ⟨yd, rfl, rfl, hsd0⟩ := hp9
    have hsd : (yd = 1 ∧ sOUND (fun j => rd y0 j) (fun j => rd y1 j) (fun j => rd y2 j) (F 3) n) ∨ (yd = 0 ∧ ¬ sOUND (fun j => rd y0 j) (fun j => rd y1 j) (fun j => rd y2 j) (F 3) n) := hsd0
    have yd1 : yd = 0 ∨ yd = 1 := by omega
    refine R_s (f' := (70, [some (vR 1), some (vR 65)], [vI yd], LAY (u (u (u (u (u (u (u (u (shA A) 66 y0) 67 y1) 68 y2) 69 y3) 70 y4) 71 y5) 72 y6) 73 y7) (u (u (u (shF F) 6 ya) 7 yv) 13 ye), 0, 0)) hc72 0 rfl trivial ?_
    refine R_if (t := 80) hc72 rfl rfl (fun (c3 : ¬ yd = 0) => ?_) (fun (c3 : ¬ (¬ yd = 0)) => ?_)
    · refine R_s (P := inI ((F 0) + 1) ∧ inI (((F 0) + 1) - 1) ∧ True) (f' := (104, [some (vR 1), some (vR 65)], [vI (((F 0) + 1) - 1)], LAY (u (u (u (u (u (u (u (u (shA A) 66 y0) 67 y1) 68 y2) 69 y3) 70 y4) 71 y5) 72 y6) 73 y7) (u (u (u (u (u (shF F) 6 ya) 7 yv) 13 ye) 5 0) 0 ((F 0) + 1)), 0, 0)) hc72 14 rfl ⟨⟨by omega, by omega⟩, ⟨by omega, by omega⟩, trivial⟩ ?_
      refine R_reti hc72 rfl rfl ⟨⟨_, rfl⟩, ⟨_, _, rfl, rfl⟩, ?_⟩
      refine R_s (P := True) (f' := (6, [some (vR 88), none], [vI 6, vI (F 0)], LAY (u (u (u (u (u (u (u (u (shA A) 66 y0) 67 y1) 68 y2) 69 y3) 70 y4) 71 y5) 72 y6) 73 y7) (u (u (u (u (u (shF F) 6 ya) 7 yv) 13 ye) 5 0) 0 ((F 0) + 1)), 0, 0)) hc140 3 rfl trivial ?_
      refine R_ic (t := 16) hc140 rfl rfl (fun (_ : ¬ F 0 = 6) => ?_) (fun (z : ¬ (¬ F 0 = 6)) => absurd (show ¬ F 0 = 6 by omega) z)
      refine R_s (P := True) (f' := (17, [some (vR 88), none], [vR 88], LAY (u (u (u (u (u (u (u (u (shA A) 66 y0) 67 y1) 68 y2) 69 y3) 70 y4) 71 y5) 72 y6) 73 y7) (u (u (u (u (u (shF F) 6 ya) 7 yv) 13 ye) 5 0) 0 ((F 0) + 1)), 0, 0)) hc140 1 rfl trivial ?_
      refine R_cv hc140 rfl rfl (l_reads (A := (u (u (u (u (u (u (u (u (shA A) 66 y0) 67 y1) 68 y2) 69 y3) 70 y4) 71 y5) 72 y6) 73 y7)) (F := (u (u (u (u (u (shF F) 6 ya) 7 yv) 13 ye) 5 0) 0 ((F 0) + 1))) hT1 (hL 18 (by decide)) (hL 100 (by decide)) ⟨(show 0 ≤ F 0 by omega), (show F 0 ≤ 5 by omega)⟩) (fun r G9 hp9 => ?_)
      obtain ⟨l100, zf, za, ze, zv, rfl, rfl, k100, kk0, zab, hm0⟩ := hp9
      have zab : 0 ≤ za ∧ za ≤ F 5 := zab
      have kk : ∀ q : Int, 0 ≤ q → q < 48 * F 0 → rd l100 q = rd (A 100) q := kk0
      have hm : (zf = 1 ∧ fAIL (A 18) (F 5) za) ∨ (zf = 0 ∧ ∃ n : Nat, ze = n ∧ sUCC (A 18) (F 5) n ∧ ∀ j : Nat, j < n → eV (A 18) (F 5) j (sT (A 18) (F 5) j) (rd l100 (48 * F 0 + 8 * j)) (rd l100 (48 * F 0 + 8 * j + 1)) (rd l100 (48 * F 0 + 8 * j + 2)) (rd l100 (48 * F 0 + 8 * j + 3)) (rd l100 (48 * F 0 + 8 * j + 4)) (rd l100 (48 * F 0 + 8 * j + 5) + 1) (rd l100 (48 * F 0 + 8 * j + 6)) (rd l100 (48 * F 0 + 8 * j + 7))) := hm0
      have hx1 : yc = 0 → zf = 1 ∧ za = ya := fun q => by
        have h1 := (hcase.resolve_right (fun z => by omega)).2
        rcases hm with h2 | h2
        · exact ⟨h2.1, fAIL_eq h2.2 h1⟩
        · obtain ⟨n2, -, h3, -⟩ := h2.2
          exact absurd (sUCC_fAIL h3 h1) id
      have hx2 : yc = 1 → zf = 0 := fun q => by
        obtain ⟨n2, -, h3, -⟩ := (hcase.resolve_left (fun z => by omega)).2
        rcases hm with h2 | h2
        · exact absurd (sUCC_fAIL h3 h2.2) id
        · exact h2.1
      refine R_s (f' := (20, [some (vR 88), none], [vI ze], LAY (u (u (u (u (u (u (u (u (u (shA A) 66 y0) 67 y1) 68 y2) 69 y3) 70 y4) 71 y5) 72 y6) 73 y7) 100 l100) (u (u (u (u (u (u (u (u (shF F) 6 ya) 7 yv) 13 ye) 5 0) 0 ((F 0) + 1)) 26 zf) 25 za) 27 zv), 0, 0)) hc140 0 rfl trivial ?_
      refine R_s (P := True) (f' := (25, [some (vR 88), some (vI ze)], [vI zf], LAY (u (u (u (u (u (u (u (u (u (shA A) 66 y0) 67 y1) 68 y2) 69 y3) 70 y4) 71 y5) 72 y6) 73 y7) 100 l100) (u (u (u (u (u (u (u (u (shF F) 6 ya) 7 yv) 13 ye) 5 0) 0 ((F 0) + 1)) 26 zf) 25 za) 27 zv), 0, 0)) hc140 3 rfl trivial ?_
      refine R_if (t := 36) hc140 rfl rfl (fun (c105 : zf = 0) => ?_) (fun (c105 : ¬ (zf = 0)) => ?_)
      · obtain ⟨n2, hzn, hsu2, hem⟩ := (hm.resolve_left (fun z => by omega)).2
        have en : n2 = n := sUCC_eq hsu2 hsu
        rw [en] at hzn hem
        refine R_s (P := True) (f' := (38, [some (vR 88), some (vI ze)], [vI ze, vR 88], LAY (u (u (u (u (u (u (u (u (u (shA A) 66 y0) 67 y1) 68 y2) 69 y3) 70 y4) 71 y5) 72 y6) 73 y7) 100 l100) (u (u (u (u (u (u (u (u (shF F) 6 ya) 7 yv) 13 ye) 5 0) 0 ((F 0) + 1)) 26 zf) 25 za) 27 zv), 0, 0)) hc140 2 rfl trivial ?_
        refine R_cv hc140 rfl rfl (l_good (A := (u (u (u (u (u (u (u (u (u (shA A) 66 y0) 67 y1) 68 y2) 69 y3) 70 y4) 71 y5) 72 y6) 73 y7) 100 l100)) (F := (u (u (u (u (u (u (u (u (shF F) 6 ya) 7 yv) 13 ye) 5 0) 0 ((F 0) + 1)) 26 zf) 25 za) 27 zv)) (by show l100.length = 288; exact k100) ⟨(show 0 ≤ F 0 by omega), (show F 0 ≤ 5 by omega)⟩ ⟨p1, p2⟩ (n := n) hzn hn6.2 (fun j hj => ⟨fun q => (eV_num (hem j hj)).1 (.inr (.inl q)), (eV_num (hem j hj)).2⟩)) (fun r G9 hp9 => ?_)
        obtain ⟨zd, rfl, rfl, hgd0⟩ := hp9
        have hgd : (zd = 1 ∧ sOUND (fun j => rd l100 (48 * F 0 + 8 * j)) (fun j => rd l100 (48 * F 0 + 8 * j + 1)) (fun j => rd l100 (48 * F 0 + 8 * j + 2)) (F 3) n) ∨ (zd = 0 ∧ ¬ sOUND (fun j => rd l100 (48 * F 0 + 8 * j)) (fun j => rd l100 (48 * F 0 + 8 * j + 1)) (fun j => rd l100 (48 * F 0 + 8 * j + 2)) (F 3) n) := hgd0
        have hso : sOUND (fun j => rd y0 j) (fun j => rd y1 j) (fun j => rd y2 j) (F 3) n ↔ sOUND (fun j => rd l100 (48 * F 0 + 8 * j)) (fun j => rd l100 (48 * F 0 + 8 * j + 1)) (fun j => rd l100 (48 * F 0 + 8 * j + 2)) (F 3) n := sOUND_eq (fun j hj => by
          have z1 := hev j hj
          have z2 := hem j hj
          (try dsimp only)
          refine ⟨by rw [z1.1, z2.1], fun q => ?_⟩
          rcases q with q | q
          · have w : eK (A 18) (F 5) j (sT (A 18) (F 5) j) = 1 := z1.1.symm.trans q
            have w2 : rd l100 (48 * F 0 + 8 * j) = 1 := by rw [z2.1]; exact w
            exact ⟨by rw [(z1.2.2.1 q).1, (z2.2.2.1 w2).1], by rw [(z1.2.2.1 q).2.1, (z2.2.2.1 w2).2.1]⟩
          · have w : eK (A 18) (F 5) j (sT (A 18) (F 5) j) = 2 := z1.1.symm.trans q
            have w2 : rd l100 (48 * F 0 + 8 * j) = 2 := by rw [z2.1]; exact w
            exact ⟨by rw [(z1.2.2.2.1 q).1, (z2.2.2.2.1 w2).1], by rw [(z1.2.2.2.1 q).2, (z2.2.2.2.1 w2).2]⟩)
        have hx3 : zd = yd := by
          rcases hsd with h1 | h1 <;> rcases hgd with h2 | h2
          · omega
          · exact absurd (hso.mp h1.2) h2.2
          · exact absurd (hso.mpr h2.2) h1.2
          · omega
        refine R_s (f' := (41, [some (vR 88), some (vI ze)], [vI zd], LAY (u (u (u (u (u (u (u (u (u (shA A) 66 y0) 67 y1) 68 y2) 69 y3) 70 y4) 71 y5) 72 y6) 73 y7) 100 l100) (u (u (u (u (u (u (u (u (shF F) 6 ya) 7 yv) 13 ye) 5 0) 0 ((F 0) + 1)) 26 zf) 25 za) 27 zv), 0, 0)) hc140 0 rfl trivial ?_
        refine R_if (t := 51) hc140 rfl rfl (fun (c106 : ¬ zd = 0) => ?_) (fun (c106 : ¬ (¬ zd = 0)) => ?_)
        · refine R_s (P := (0 ≤ F 0 ∧ F 0 < ((A 99).length : Int)) ∧ inI ((F 0) + 1) ∧ inI (((F 0) + 1) - 1) ∧ True) (f' := (82, [some (vR 88), some (vI ze)], [vI (((F 0) + 1) - 1)], LAY (u (u (u (u (u (u (u (u (u (u (shA A) 66 y0) 67 y1) 68 y2) 69 y3) 70 y4) 71 y5) 72 y6) 73 y7) 100 l100) 99 (wr (A 99) (F 0) ze)) (u (u (u (u (u (u (u (u (u (u (shF F) 6 ya) 7 yv) 13 ye) 5 0) 0 ((F 0) + 1)) 26 zf) 25 za) 27 zv) 24 0) 21 ((F 0) + 1)), 0, 0)) hc140 19 rfl ⟨⟨by omega, by omega⟩, ⟨by omega, by omega⟩, ⟨by omega, by omega⟩, trivial⟩ ?_
          refine R_reti hc140 rfl rfl ?_
          first
            | (exfalso; omega; done)
            | exact ⟨rfl, (u (u (u (u (u (u (u (u (u (u A 66 y0) 67 y1) 68 y2) 69 y3) 70 y4) 71 y5) 72 y6) 73 y7) 100 l100) 99 (wr (A 99) (F 0) ze)), (u (u (u (u (u (u (u (u F 6 ya) 7 yv) 13 ye) 5 0) 0 ((F 0) + 1)) 26 zf) 25 za) 27 zv), rfl, rfl, ⟨(LENS_u (LENS_u (LENS_u (LENS_u (LENS_u (LENS_u (LENS_u (LENS_u (LENS_u (LENS_u hL (by show (y0).length = (A 66).length; rw [ly0, hL 66 (by decide)]; rfl)) (by show (y1).length = (A 67).length; rw [ly1, hL 67 (by decide)]; rfl)) (by show (y2).length = (A 68).length; rw [ly2, hL 68 (by decide)]; rfl)) (by show (y3).length = (A 69).length; rw [ly3, hL 69 (by decide)]; rfl)) (by show (y4).length = (A 70).length; rw [ly4, hL 70 (by decide)]; rfl)) (by show (y5).length = (A 71).length; rw [ly5, hL 71 (by decide)]; rfl)) (by show (y6).length = (A 72).length; rw [ly6, hL 72 (by decide)]; rfl)) (by show (y7).length = (A 73).length; rw [ly7, hL 73 (by decide)]; rfl)) (by show (l100).length = (A 100).length; rw [k100, hL 100 (by decide)]; rfl)) (by show (wr (A 99) (F 0) ze).length = (A 99).length; simp only [wr_len])), hR0.2.1, hR0.2.2.1, ⟨(show (0 : Int) ≤ 0 by decide), (show (0 : Int) ≤ 120 by decide)⟩, ⟨⟨(show 0 ≤ F 0 + 1 by omega), (show F 0 + 1 ≤ 6 by omega)⟩, fun _ => DEED_keep (by decide) (hDE2.1 (by omega)) (by show rd (wr (A 99) (F 0) ze) 0 = rd (A 99) 0; exact rd_wr_n (by omega) (by decide) (by omega)) (fun q h1 h2 => kk q (by omega) (by omega)), fun _ => DEED_keep (by decide) (hDE2.2.1 (by omega)) (by show rd (wr (A 99) (F 0) ze) 1 = rd (A 99) 1; exact rd_wr_n (by omega) (by decide) (by omega)) (fun q h1 h2 => kk q (by omega) (by omega)), fun _ => DEED_keep (by decide) (hDE2.2.2.1 (by omega)) (by show rd (wr (A 99) (F 0) ze) 2 = rd (A 99) 2; exact rd_wr_n (by omega) (by decide) (by omega)) (fun q h1 h2 => kk q (by omega) (by omega)), fun _ => DEED_keep (by decide) (hDE2.2.2.2.1 (by omega)) (by show rd (wr (A 99) (F 0) ze) 3 = rd (A 99) 3; exact rd_wr_n (by omega) (by decide) (by omega)) (fun q h1 h2 => kk q (by omega) (by omega)), fun _ => DEED_keep (by decide) (hDE2.2.2.2.2.1 (by omega)) (by show rd (wr (A 99) (F 0) ze) 4 = rd (A 99) 4; exact rd_wr_n (by omega) (by decide) (by omega)) (fun q h1 h2 => kk q (by omega) (by omega)), fun _ => by
                  have z := DEED_new (mE := wr (A 99) (F 0) ze) (d := 5) hsu hev (by rw [hd] at hem; exact hem) (by rw [hd, rd_wr_s (by omega) (by rw [hL 99 (by decide)]; decide)]; exact hzn) (hsd.resolve_right (fun z => by omega)).2
                  rw [← hyn] at z
                  exact z⟩, hR0.2.2.2.2.2.1, hR0.2.2.2.2.2.2.1, hR0.2.2.2.2.2.2.2.1, hR0.2.2.2.2.2.2.2.2.1, (REFU_c hR0.2.2.2.2.2.2.2.2.2)⟩⟩
        · exact absurd (show ¬ zd = 0 by rw [hx3]; assumption) (by assumption)
      · exfalso
        omega
    · refine R_s (P := True) (f' := (76, [some (vR 1), some (vR 65)], [vI (-7), vR 1], LAY (u (u (u (u (u (u (u (u (shA A) 66 y0) 67 y1) 68 y2) 69 y3) 70 y4) 71 y5) 72 y6) 73 y7) (u (u (u (shF F) 6 ya) 7 yv) 13 ye), 0, 0)) hc72 2 rfl trivial ?_
      refine R_cv hc72 rfl rfl ?_ (fun r G h => h)
      refine R_s (P := True) (f' := (3, [some (vR 1), some (vI (-7))], [vI (-2), vI (-7)], LAY (u (u (u (u (u (u (u (u (shA A) 66 y0) 67 y1) 68 y2) 69 y3) 70 y4) 71 y5) 72 y6) 73 y7) (u (u (u (shF F) 6 ya) 7 yv) 13 ye), 0, 0)) hc93 2 rfl trivial ?_
      refine R_ic (t := 23) hc93 rfl rfl (fun (z : (-2) < (-7)) => absurd z (by decide)) (fun (_ : ¬ ((-2) < (-7))) => ?_)
      refine R_s (P := True) (f' := (9, [some (vR 1), some (vI (-7))], [vI (-8), vI (-7)], LAY (u (u (u (u (u (u (u (u (shA A) 66 y0) 67 y1) 68 y2) 69 y3) 70 y4) 71 y5) 72 y6) 73 y7) (u (u (u (shF F) 6 ya) 7 yv) 13 ye), 0, 0)) hc93 2 rfl trivial ?_
      refine R_ic (t := 23) hc93 rfl rfl (fun (z : (-7) < (-8)) => absurd z (by decide)) (fun (_ : ¬ ((-7) < (-8))) => ?_)
      refine R_s (P := inI 7 ∧ (0 ≤ 7 ∧ 7 < ((A 87).length : Int)) ∧ inI ((rd (A 87) 7) + 1) ∧ (0 ≤ 7 ∧ 7 < ((A 87).length : Int)) ∧ True) (f' := (24, [some (vR 1), some (vI (-7))], [vI (-7)], LAY (u (u (u (u (u (u (u (u (u (shA A) 66 y0) 67 y1) 68 y2) 69 y3) 70 y4) 71 y5) 72 y6) 73 y7) 87 (wr (A 87) 7 ((rd (A 87) 7) + 1))) (u (u (u (shF F) 6 ya) 7 yv) 13 ye), 0, 0)) hc93 10 rfl ⟨⟨by omega, by omega⟩, ⟨by omega, by omega⟩, ⟨by omega, by omega⟩, ⟨by omega, by omega⟩, trivial⟩ ?_
      refine R_reti hc93 rfl rfl ?_
      refine R_s (f' := (79, [some (vR 1), some (vR 65)], [vI (-7)], LAY (u (u (u (u (u (u (u (u (u (shA A) 66 y0) 67 y1) 68 y2) 69 y3) 70 y4) 71 y5) 72 y6) 73 y7) 87 (wr (A 87) 7 ((rd (A 87) 7) + 1))) (u (u (u (shF F) 6 ya) 7 yv) 13 ye), 0, 0)) hc72 0 rfl trivial ?_
      refine R_reti hc72 rfl rfl ⟨⟨_, rfl⟩, ⟨_, _, rfl, rfl⟩, ?_⟩
      refine R_s (P := True) (f' := (6, [some (vR 88), none], [vI 6, vI (F 0)], LAY (u (u (u (u (u (u (u (u (u (shA A) 66 y0) 67 y1) 68 y2) 69 y3) 70 y4) 71 y5) 72 y6) 73 y7) 87 (wr (A 87) 7 ((rd (A 87) 7) + 1))) (u (u (u (shF F) 6 ya) 7 yv) 13 ye), 0, 0)) hc140 3 rfl trivial ?_
      refine R_ic (t := 16) hc140 rfl rfl (fun (_ : ¬ F 0 = 6) => ?_) (fun (z : ¬ (¬ F 0 = 6)) => absurd (show ¬ F 0 = 6 by omega) z)
      refine R_s (P := True) (f' := (17, [some (vR 88), none], [vR 88], LAY (u (u (u (u (u (u (u (u (u (shA A) 66 y0) 67 y1) 68 y2) 69 y3) 70 y4) 71 y5) 72 y6) 73 y7) 87 (wr (A 87) 7 ((rd (A 87) 7) + 1))) (u (u (u (shF F) 6 ya) 7 yv) 13 ye), 0, 0)) hc140 1 rfl trivial ?_
      refine R_cv hc140 rfl rfl (l_reads (A := (u (u (u (u (u (u (u (u (u (shA A) 66 y0) 67 y1) 68 y2) 69 y3) 70 y4) 71 y5) 72 y6) 73 y7) 87 (wr (A 87) 7 ((rd (A 87) 7) + 1)))) (F := (u (u (u (shF F) 6 ya) 7 yv) 13 ye)) hT1 (hL 18 (by decide)) (hL 100 (by decide)) ⟨(show 0 ≤ F 0 by omega), (show F 0 ≤ 5 by omega)⟩) (fun r G9 hp9 => ?_)
      obtain ⟨l100, zf, za, ze, zv, rfl, rfl, k100, kk0, zab, hm0⟩ := hp9
      have zab : 0 ≤ za ∧ za ≤ F 5 := zab
      have kk : ∀ q : Int, 0 ≤ q → q < 48 * F 0 → rd l100 q = rd (A 100) q := kk0
      have hm : (zf = 1 ∧ fAIL (A 18) (F 5) za) ∨ (zf = 0 ∧ ∃ n : Nat, ze = n ∧ sUCC (A 18) (F 5) n ∧ ∀ j : Nat, j < n → eV (A 18) (F 5) j (sT (A 18) (F 5) j) (rd l100 (48 * F 0 + 8 * j)) (rd l100 (48 * F 0 + 8 * j + 1)) (rd l100 (48 * F 0 + 8 * j + 2)) (rd l100 (48 * F 0 + 8 * j + 3)) (rd l100 (48 * F 0 + 8 * j + 4)) (rd l100 (48 * F 0 + 8 * j + 5) + 1) (rd l100 (48 * F 0 + 8 * j + 6)) (rd l100 (48 * F 0 + 8 * j + 7))) := hm0
      have hx1 : yc = 0 → zf = 1 ∧ za = ya := fun q => by
        have h1 := (hcase.resolve_right (fun z => by omega)).2
        rcases hm with h2 | h2
        · exact ⟨h2.1, fAIL_eq h2.2 h1⟩
        · obtain ⟨n2, -, h3, -⟩ := h2.2
          exact absurd (sUCC_fAIL h3 h1) id
      have hx2 : yc = 1 → zf = 0 := fun q => by
        obtain ⟨n2, -, h3, -⟩ := (hcase.resolve_left (fun z => by omega)).2
        rcases hm with h2 | h2
        · exact absurd (sUCC_fAIL h3 h2.2) id
        · exact h2.1
      refine R_s (f' := (20, [some (vR 88), none], [vI ze], LAY (u (u (u (u (u (u (u (u (u (u (shA A) 66 y0) 67 y1) 68 y2) 69 y3) 70 y4) 71 y5) 72 y6) 73 y7) 87 (wr (A 87) 7 ((rd (A 87) 7) + 1))) 100 l100) (u (u (u (u (u (u (shF F) 6 ya) 7 yv) 13 ye) 26 zf) 25 za) 27 zv), 0, 0)) hc140 0 rfl trivial ?_
      refine R_s (P := True) (f' := (25, [some (vR 88), some (vI ze)], [vI zf], LAY (u (u (u (u (u (u (u (u (u (u (shA A) 66 y0) 67 y1) 68 y2) 69 y3) 70 y4) 71 y5) 72 y6) 73 y7) 87 (wr (A 87) 7 ((rd (A 87) 7) + 1))) 100 l100) (u (u (u (u (u (u (shF F) 6 ya) 7 yv) 13 ye) 26 zf) 25 za) 27 zv), 0, 0)) hc140 3 rfl trivial ?_
      refine R_if (t := 36) hc140 rfl rfl (fun (c107 : zf = 0) => ?_) (fun (c107 : ¬ (zf = 0)) => ?_)
      · obtain ⟨n2, hzn, hsu2, hem⟩ := (hm.resolve_left (fun z => by omega)).2
        have en : n2 = n := sUCC_eq hsu2 hsu
        rw [en] at hzn hem
        refine R_s (P := True) (f' := (38, [some (vR 88), some (vI ze)], [vI ze, vR 88], LAY (u (u (u (u (u (u (u (u (u (u (shA A) 66 y0) 67 y1) 68 y2) 69 y3) 70 y4) 71 y5) 72 y6) 73 y7) 87 (wr (A 87) 7 ((rd (A 87) 7) + 1))) 100 l100) (u (u (u (u (u (u (shF F) 6 ya) 7 yv) 13 ye) 26 zf) 25 za) 27 zv), 0, 0)) hc140 2 rfl trivial ?_
        refine R_cv hc140 rfl rfl (l_good (A := (u (u (u (u (u (u (u (u (u (u (shA A) 66 y0) 67 y1) 68 y2) 69 y3) 70 y4) 71 y5) 72 y6) 73 y7) 87 (wr (A 87) 7 ((rd (A 87) 7) + 1))) 100 l100)) (F := (u (u (u (u (u (u (shF F) 6 ya) 7 yv) 13 ye) 26 zf) 25 za) 27 zv)) (by show l100.length = 288; exact k100) ⟨(show 0 ≤ F 0 by omega), (show F 0 ≤ 5 by omega)⟩ ⟨p1, p2⟩ (n := n) hzn hn6.2 (fun j hj => ⟨fun q => (eV_num (hem j hj)).1 (.inr (.inl q)), (eV_num (hem j hj)).2⟩)) (fun r G9 hp9 => ?_)
        obtain ⟨zd, rfl, rfl, hgd0⟩ := hp9
        have hgd : (zd = 1 ∧ sOUND (fun j => rd l100 (48 * F 0 + 8 * j)) (fun j => rd l100 (48 * F 0 + 8 * j + 1)) (fun j => rd l100 (48 * F 0 + 8 * j + 2)) (F 3) n) ∨ (zd = 0 ∧ ¬ sOUND (fun j => rd l100 (48 * F 0 + 8 * j)) (fun j => rd l100 (48 * F 0 + 8 * j + 1)) (fun j => rd l100 (48 * F 0 + 8 * j + 2)) (F 3) n) := hgd0
        have hso : sOUND (fun j => rd y0 j) (fun j => rd y1 j) (fun j => rd y2 j) (F 3) n ↔ sOUND (fun j => rd l100 (48 * F 0 + 8 * j)) (fun j => rd l100 (48 * F 0 + 8 * j + 1)) (fun j => rd l100 (48 * F 0 + 8 * j + 2)) (F 3) n := sOUND_eq (fun j hj => by
          have z1 := hev j hj
          have z2 := hem j hj
          (try dsimp only)
          refine ⟨by rw [z1.1, z2.1], fun q => ?_⟩
          rcases q with q | q
          · have w : eK (A 18) (F 5) j (sT (A 18) (F 5) j) = 1 := z1.1.symm.trans q
            have w2 : rd l100 (48 * F 0 + 8 * j) = 1 := by rw [z2.1]; exact w
            exact ⟨by rw [(z1.2.2.1 q).1, (z2.2.2.1 w2).1], by rw [(z1.2.2.1 q).2.1, (z2.2.2.1 w2).2.1]⟩
          · have w : eK (A 18) (F 5) j (sT (A 18) (F 5) j) = 2 := z1.1.symm.trans q
            have w2 : rd l100 (48 * F 0 + 8 * j) = 2 := by rw [z2.1]; exact w
            exact ⟨by rw [(z1.2.2.2.1 q).1, (z2.2.2.2.1 w2).1], by rw [(z1.2.2.2.1 q).2, (z2.2.2.2.1 w2).2]⟩)
        have hx3 : zd = yd := by
          rcases hsd with h1 | h1 <;> rcases hgd with h2 | h2
          · omega
          · exact absurd (hso.mp h1.2) h2.2
          · exact absurd (hso.mpr h2.2) h1.2
          · omega
        refine R_s (f' := (41, [some (vR 88), some (vI ze)], [vI zd], LAY (u (u (u (u (u (u (u (u (u (u (shA A) 66 y0) 67 y1) 68 y2) 69 y3) 70 y4) 71 y5) 72 y6) 73 y7) 87 (wr (A 87) 7 ((rd (A 87) 7) + 1))) 100 l100) (u (u (u (u (u (u (shF F) 6 ya) 7 yv) 13 ye) 26 zf) 25 za) 27 zv), 0, 0)) hc140 0 rfl trivial ?_
        refine R_if (t := 51) hc140 rfl rfl (fun (c108 : ¬ zd = 0) => ?_) (fun (c108 : ¬ (¬ zd = 0)) => ?_)
        · exact absurd (show ¬ yd = 0 by rw [← hx3]; assumption) (by assumption)
        · refine R_s (P := True) (f' := (47, [some (vR 88), some (vI ze)], [vI (-7), vR 88], LAY (u (u (u (u (u (u (u (u (u (u (shA A) 66 y0) 67 y1) 68 y2) 69 y3) 70 y4) 71 y5) 72 y6) 73 y7) 87 (wr (A 87) 7 ((rd (A 87) 7) + 1))) 100 l100) (u (u (u (u (u (u (shF F) 6 ya) 7 yv) 13 ye) 26 zf) 25 za) 27 zv), 0, 0)) hc140 2 rfl trivial ?_
          refine R_cv hc140 rfl rfl ?_ (fun r G h => h)
          refine R_s (P := inI 7 ∧ (0 ≤ 7 ∧ 7 < ((A 87).length : Int)) ∧ inI ((rd (A 87) 7) + 1) ∧ (0 ≤ 7 ∧ 7 < ((A 87).length : Int)) ∧ True) (f' := (12, [some (vR 88), some (vI (-7))], [vI (-7)], LAY (u (u (u (u (u (u (u (u (u (u (u (shA A) 66 y0) 67 y1) 68 y2) 69 y3) 70 y4) 71 y5) 72 y6) 73 y7) 87 (wr (A 87) 7 ((rd (A 87) 7) + 1))) 100 l100) 89 (wr (A 87) 7 ((rd (A 87) 7) + 1))) (u (u (u (u (u (u (shF F) 6 ya) 7 yv) 13 ye) 26 zf) 25 za) 27 zv), 0, 0)) hc105 10 rfl ⟨⟨by omega, by omega⟩, ⟨by omega, by omega⟩, ⟨by omega, by omega⟩, ⟨by omega, by omega⟩, trivial⟩ ?_
          refine R_reti hc105 rfl rfl ?_
          refine R_s (f' := (50, [some (vR 88), some (vI ze)], [vI (-7)], LAY (u (u (u (u (u (u (u (u (u (u (u (shA A) 66 y0) 67 y1) 68 y2) 69 y3) 70 y4) 71 y5) 72 y6) 73 y7) 87 (wr (A 87) 7 ((rd (A 87) 7) + 1))) 100 l100) 89 (wr (A 87) 7 ((rd (A 87) 7) + 1))) (u (u (u (u (u (u (shF F) 6 ya) 7 yv) 13 ye) 26 zf) 25 za) 27 zv), 0, 0)) hc140 0 rfl trivial ?_
          refine R_reti hc140 rfl rfl ?_
          first
            | (exfalso; omega; done)
            | exact ⟨rfl, (u (u (u (u (u (u (u (u (u (u A 66 y0) 67 y1) 68 y2) 69 y3) 70 y4) 71 y5) 72 y6) 73 y7) 87 (wr (A 87) 7 ((rd (A 87) 7) + 1))) 100 l100), (u (u (u (u (u (u F 6 ya) 7 yv) 13 ye) 26 zf) 25 za) 27 zv), rfl, rfl, ⟨(LENS_u (LENS_u (LENS_u (LENS_u (LENS_u (LENS_u (LENS_u (LENS_u (LENS_u (LENS_u hL (by show (y0).length = (A 66).length; rw [ly0, hL 66 (by decide)]; rfl)) (by show (y1).length = (A 67).length; rw [ly1, hL 67 (by decide)]; rfl)) (by show (y2).length = (A 68).length; rw [ly2, hL 68 (by decide)]; rfl)) (by show (y3).length = (A 69).length; rw [ly3, hL 69 (by decide)]; rfl)) (by show (y4).length = (A 70).length; rw [ly4, hL 70 (by decide)]; rfl)) (by show (y5).length = (A 71).length; rw [ly5, hL 71 (by decide)]; rfl)) (by show (y6).length = (A 72).length; rw [ly6, hL 72 (by decide)]; rfl)) (by show (y7).length = (A 73).length; rw [ly7, hL 73 (by decide)]; rfl)) (wr_len _ _ _)) (by show (l100).length = (A 100).length; rw [k100, hL 100 (by decide)]; rfl)), hR0.2.1, hR0.2.2.1, hR0.2.2.2.1, ⟨⟨(show 0 ≤ F 0 by omega), (show F 0 ≤ 6 by omega)⟩, fun _ => DEED_keep (by decide) (hDE2.1 (by omega)) rfl (fun q h1 h2 => kk q (by omega) (by omega)), fun _ => DEED_keep (by decide) (hDE2.2.1 (by omega)) rfl (fun q h1 h2 => kk q (by omega) (by omega)), fun _ => DEED_keep (by decide) (hDE2.2.2.1 (by omega)) rfl (fun q h1 h2 => kk q (by omega) (by omega)), fun _ => DEED_keep (by decide) (hDE2.2.2.2.1 (by omega)) rfl (fun q h1 h2 => kk q (by omega) (by omega)), fun _ => DEED_keep (by decide) (hDE2.2.2.2.2.1 (by omega)) rfl (fun q h1 h2 => kk q (by omega) (by omega)), fun q => absurd (show (5 : Int) < F 0 from q) (by omega)⟩, hR0.2.2.2.2.2.1, hR0.2.2.2.2.2.2.1, hR0.2.2.2.2.2.2.2.1, hR0.2.2.2.2.2.2.2.2.1, (REFU_up hR0.2.2.2.2.2.2.2.2.2 (hL 87 (by decide)) (by decide) (by decide))⟩⟩
      · exfalso
        omega
  · refine R_s (P := inI ((-10) - ya) ∧ True) (f' := (58, [some (vR 1), some (vR 65)], [vI ((-10) - ya)], LAY (u (u (u (u (u (u (u (u (shA A) 66 y0) 67 y1) 68 y2) 69 y3) 70 y4) 71 y5) 72 y6) 73 y7) (u (u (u (shF F) 6 ya) 7 yv) 13 ye), 0, 0)) hc72 5 rfl ⟨⟨by omega, by omega⟩, trivial⟩ ?_
    refine R_reti hc72 rfl rfl ⟨⟨_, rfl⟩, ⟨_, _, rfl, rfl⟩, ?_⟩
    refine R_s (P := True) (f' := (6, [some (vR 88), none], [vI 6, vI (F 0)], LAY (u (u (u (u (u (u (u (u (shA A) 66 y0) 67 y1) 68 y2) 69 y3) 70 y4) 71 y5) 72 y6) 73 y7) (u (u (u (shF F) 6 ya) 7 yv) 13 ye), 0, 0)) hc140 3 rfl trivial ?_
    refine R_ic (t := 16) hc140 rfl rfl (fun (_ : ¬ F 0 = 6) => ?_) (fun (z : ¬ (¬ F 0 = 6)) => absurd (show ¬ F 0 = 6 by omega) z)
    refine R_s (P := True) (f' := (17, [some (vR 88), none], [vR 88], LAY (u (u (u (u (u (u (u (u (shA A) 66 y0) 67 y1) 68 y2) 69 y3) 70 y4) 71 y5) 72 y6) 73 y7) (u (u (u (shF F) 6 ya) 7 yv) 13 ye), 0, 0)) hc140 1 rfl trivial ?_
    refine R_cv hc140 rfl rfl (l_reads (A := (u (u (u (u (u (u (u (u (shA A) 66 y0) 67 y1) 68 y2) 69 y3) 70 y4) 71 y5) 72 y6) 73 y7)) (F := (u (u (u (shF F) 6 ya) 7 yv) 13 ye)) hT1 (hL 18 (by decide)) (hL 100 (by decide)) ⟨(show 0 ≤ F 0 by omega), (show F 0 ≤ 5 by omega)⟩) (fun r G9 hp9 => ?_)
    obtain ⟨l100, zf, za, ze, zv, rfl, rfl, k100, kk0, zab, hm0⟩ := hp9
    have zab : 0 ≤ za ∧ za ≤ F 5 := zab
    have kk : ∀ q : Int, 0 ≤ q → q < 48 * F 0 → rd l100 q = rd (A 100) q := kk0
    have hm : (zf = 1 ∧ fAIL (A 18) (F 5) za) ∨ (zf = 0 ∧ ∃ n : Nat, ze = n ∧ sUCC (A 18) (F 5) n ∧ ∀ j : Nat, j < n → eV (A 18) (F 5) j (sT (A 18) (F 5) j) (rd l100 (48 * F 0 + 8 * j)) (rd l100 (48 * F 0 + 8 * j + 1)) (rd l100 (48 * F 0 + 8 * j + 2)) (rd l100 (48 * F 0 + 8 * j + 3)) (rd l100 (48 * F 0 + 8 * j + 4)) (rd l100 (48 * F 0 + 8 * j + 5) + 1) (rd l100 (48 * F 0 + 8 * j + 6)) (rd l100 (48 * F 0 + 8 * j + 7))) := hm0
    have hx1 : yc = 0 → zf = 1 ∧ za = ya := fun q => by
      have h1 := (hcase.resolve_right (fun z => by omega)).2
      rcases hm with h2 | h2
      · exact ⟨h2.1, fAIL_eq h2.2 h1⟩
      · obtain ⟨n2, -, h3, -⟩ := h2.2
        exact absurd (sUCC_fAIL h3 h1) id
    have hx2 : yc = 1 → zf = 0 := fun q => by
      obtain ⟨n2, -, h3, -⟩ := (hcase.resolve_left (fun z => by omega)).2
      rcases hm with h2 | h2
      · exact absurd (sUCC_fAIL h3 h2.2) id
      · exact h2.1
    refine R_s (f' := (20, [some (vR 88), none], [vI ze], LAY (u (u (u (u (u (u (u (u (u (shA A) 66 y0) 67 y1) 68 y2) 69 y3) 70 y4) 71 y5) 72 y6) 73 y7) 100 l100) (u (u (u (u (u (u (shF F) 6 ya) 7 yv) 13 ye) 26 zf) 25 za) 27 zv), 0, 0)) hc140 0 rfl trivial ?_
    refine R_s (P := True) (f' := (25, [some (vR 88), some (vI ze)], [vI zf], LAY (u (u (u (u (u (u (u (u (u (shA A) 66 y0) 67 y1) 68 y2) 69 y3) 70 y4) 71 y5) 72 y6) 73 y7) 100 l100) (u (u (u (u (u (u (shF F) 6 ya) 7 yv) 13 ye) 26 zf) 25 za) 27 zv), 0, 0)) hc140 3 rfl trivial ?_
    refine R_if (t := 36) hc140 rfl rfl (fun (c107 : zf = 0) => ?_) (fun (c107 : ¬ (zf = 0)) => ?_)
    · exfalso
      omega
    · refine R_s (P := inI ((-10) - za) ∧ True) (f' := (35, [some (vR 88), some (vI ze)], [vI ((-10) - za)], LAY (u (u (u (u (u (u (u (u (u (shA A) 66 y0) 67 y1) 68 y2) 69 y3) 70 y4) 71 y5) 72 y6) 73 y7) 100 l100) (u (u (u (u (u (u (shF F) 6 ya) 7 yv) 13 ye) 26 zf) 25 za) 27 zv), 0, 0)) hc140 4 rfl ⟨⟨by omega, by omega⟩, trivial⟩ ?_
      refine R_reti hc140 rfl rfl ?_
      first
        | (exfalso; omega; done)
        | exact ⟨(by rw [show (-10) - za = (-10) - ya by omega]), (u (u (u (u (u (u (u (u (u A 66 y0) 67 y1) 68 y2) 69 y3) 70 y4) 71 y5) 72 y6) 73 y7) 100 l100), (u (u (u (u (u (u F 6 ya) 7 yv) 13 ye) 26 zf) 25 za) 27 zv), rfl, rfl, ⟨(LENS_u (LENS_u (LENS_u (LENS_u (LENS_u (LENS_u (LENS_u (LENS_u (LENS_u hL (by show (y0).length = (A 66).length; rw [ly0, hL 66 (by decide)]; rfl)) (by show (y1).length = (A 67).length; rw [ly1, hL 67 (by decide)]; rfl)) (by show (y2).length = (A 68).length; rw [ly2, hL 68 (by decide)]; rfl)) (by show (y3).length = (A 69).length; rw [ly3, hL 69 (by decide)]; rfl)) (by show (y4).length = (A 70).length; rw [ly4, hL 70 (by decide)]; rfl)) (by show (y5).length = (A 71).length; rw [ly5, hL 71 (by decide)]; rfl)) (by show (y6).length = (A 72).length; rw [ly6, hL 72 (by decide)]; rfl)) (by show (y7).length = (A 73).length; rw [ly7, hL 73 (by decide)]; rfl)) (by show (l100).length = (A 100).length; rw [k100, hL 100 (by decide)]; rfl)), hR0.2.1, hR0.2.2.1, hR0.2.2.2.1, ⟨⟨(show 0 ≤ F 0 by omega), (show F 0 ≤ 6 by omega)⟩, fun _ => DEED_keep (by decide) (hDE2.1 (by omega)) rfl (fun q h1 h2 => kk q (by omega) (by omega)), fun _ => DEED_keep (by decide) (hDE2.2.1 (by omega)) rfl (fun q h1 h2 => kk q (by omega) (by omega)), fun _ => DEED_keep (by decide) (hDE2.2.2.1 (by omega)) rfl (fun q h1 h2 => kk q (by omega) (by omega)), fun _ => DEED_keep (by decide) (hDE2.2.2.2.1 (by omega)) rfl (fun q h1 h2 => kk q (by omega) (by omega)), fun _ => DEED_keep (by decide) (hDE2.2.2.2.2.1 (by omega)) rfl (fun q h1 h2 => kk q (by omega) (by omega)), fun q => absurd (show (5 : Int) < F 0 from q) (by omega)⟩, hR0.2.2.2.2.2.1, hR0.2.2.2.2.2.2.1, hR0.2.2.2.2.2.2.2.1, hR0.2.2.2.2.2.2.2.2.1, (REFU_c hR0.2.2.2.2.2.2.2.2.2)⟩⟩

theorem op_deed {c : Int} {A : Nat → List Int} {F : Nat → Int} (hR : REL c A F) (hc : c < 512) : R 72 (0, L0 72 [vR 1], [], LAY (shA A) (shF F), 0, 0) (fun r G => (∃ x, r = some (vI x)) ∧ (∃ (A1 : Nat → List Int) (F1 : Nat → Int), G = LAY A1 F1 ∧ A1 0 = A 0) ∧ R 140 (0, L0 140 [vR 88], [], G, 0, 0) (fun r2 G2 => r2 = r ∧ ∃ (A' : Nat → List Int) (F' : Nat → Int), G2 = LAY (shA A') (shF F') ∧ A' 0 = A 0 ∧ REL (c + 1) A' F')) := by
  have h6 := hR.2.2.2.2.1.1
  obtain e | e | e | e | e | e | e : F 0 = 0 ∨ F 0 = 1 ∨ F 0 = 2 ∨ F 0 = 3 ∨ F 0 = 4 ∨ F 0 = 5 ∨ F 0 = 6 := by omega
  · exact op_deed_0 hR hc e
  · exact op_deed_1 hR hc e
  · exact op_deed_2 hR hc e
  · exact op_deed_3 hR hc e
  · exact op_deed_4 hR hc e
  · exact op_deed_5 hR hc e
  · exact op_deed_f hR hc e

