theorem mI_0 {c : Int} {A : Nat → List Int} {F : Nat → Int} (hR0 : REL c A F) (hd : (0 : Int) < F 0) {i : Int} (q1 : 0 ≤ i) (q2 : i < F 8) : rd (A 100) (0 + 8 * i) = rd (A 21) i ∧ (rd (A 21) i = 3 ∨ rd (A 100) (0 + 8 * i + 1) = rd (A 22) i) ∧ (rd (A 21) i = 1 ∨ rd (A 21) i = 2 → rd (A 100) (0 + 8 * i + 2) = rd (A 23) i) ∧ (rd (A 21) i = 0 ∨ rd (A 21) i = 3 → rd (A 100) (0 + 8 * i + 3) = rd (A 24) i) ∧ (rd (A 21) i = 1 → rd (A 100) (0 + 8 * i + 4) = rd (A 25) i ∧ (rd (A 25) i = 0 ∨ rd (A 25) i = 1) ∧ 0 ≤ rd (A 23) i ∧ rd (A 23) i < F 3) := by
  have hD := D_at0 hR0 hd
  have z := hD.2.2.2.2.2 i.toNat (by omega)
  have z9 := hD.1.2.2.2 i.toNat (by omega)
  have e9 : ((i.toNat : Nat) : Int) = i := by omega
  have eN := R_n hR0
  rw [e9] at z z9
  rw [eN] at z9
  exact ⟨z.1, z.2.1, z.2.2.1, z.2.2.2.1, fun q => ⟨z.2.2.2.2.1 q, (z9.2.2.2.2.2.2.1 q).1, (z9.2.2.2.2.1 (.inl q)).1, (z9.2.2.2.2.1 (.inl q)).2⟩⟩

theorem mI_1 {c : Int} {A : Nat → List Int} {F : Nat → Int} (hR0 : REL c A F) (hd : (1 : Int) < F 0) {i : Int} (q1 : 0 ≤ i) (q2 : i < F 9) : rd (A 100) (48 + 8 * i) = rd (A 30) i ∧ (rd (A 30) i = 3 ∨ rd (A 100) (48 + 8 * i + 1) = rd (A 31) i) ∧ (rd (A 30) i = 1 ∨ rd (A 30) i = 2 → rd (A 100) (48 + 8 * i + 2) = rd (A 32) i) ∧ (rd (A 30) i = 0 ∨ rd (A 30) i = 3 → rd (A 100) (48 + 8 * i + 3) = rd (A 33) i) ∧ (rd (A 30) i = 1 → rd (A 100) (48 + 8 * i + 4) = rd (A 34) i ∧ (rd (A 34) i = 0 ∨ rd (A 34) i = 1) ∧ 0 ≤ rd (A 32) i ∧ rd (A 32) i < F 3) := by
  have hD := D_at1 hR0 hd
  have z := hD.2.2.2.2.2 i.toNat (by omega)
  have z9 := hD.1.2.2.2 i.toNat (by omega)
  have e9 : ((i.toNat : Nat) : Int) = i := by omega
  have eN := R_n hR0
  rw [e9] at z z9
  rw [eN] at z9
  exact ⟨z.1, z.2.1, z.2.2.1, z.2.2.2.1, fun q => ⟨z.2.2.2.2.1 q, (z9.2.2.2.2.2.2.1 q).1, (z9.2.2.2.2.1 (.inl q)).1, (z9.2.2.2.2.1 (.inl q)).2⟩⟩

theorem mI_2 {c : Int} {A : Nat → List Int} {F : Nat → Int} (hR0 : REL c A F) (hd : (2 : Int) < F 0) {i : Int} (q1 : 0 ≤ i) (q2 : i < F 10) : rd (A 100) (96 + 8 * i) = rd (A 39) i ∧ (rd (A 39) i = 3 ∨ rd (A 100) (96 + 8 * i + 1) = rd (A 40) i) ∧ (rd (A 39) i = 1 ∨ rd (A 39) i = 2 → rd (A 100) (96 + 8 * i + 2) = rd (A 41) i) ∧ (rd (A 39) i = 0 ∨ rd (A 39) i = 3 → rd (A 100) (96 + 8 * i + 3) = rd (A 42) i) ∧ (rd (A 39) i = 1 → rd (A 100) (96 + 8 * i + 4) = rd (A 43) i ∧ (rd (A 43) i = 0 ∨ rd (A 43) i = 1) ∧ 0 ≤ rd (A 41) i ∧ rd (A 41) i < F 3) := by
  have hD := D_at2 hR0 hd
  have z := hD.2.2.2.2.2 i.toNat (by omega)
  have z9 := hD.1.2.2.2 i.toNat (by omega)
  have e9 : ((i.toNat : Nat) : Int) = i := by omega
  have eN := R_n hR0
  rw [e9] at z z9
  rw [eN] at z9
  exact ⟨z.1, z.2.1, z.2.2.1, z.2.2.2.1, fun q => ⟨z.2.2.2.2.1 q, (z9.2.2.2.2.2.2.1 q).1, (z9.2.2.2.2.1 (.inl q)).1, (z9.2.2.2.2.1 (.inl q)).2⟩⟩

theorem mI_3 {c : Int} {A : Nat → List Int} {F : Nat → Int} (hR0 : REL c A F) (hd : (3 : Int) < F 0) {i : Int} (q1 : 0 ≤ i) (q2 : i < F 11) : rd (A 100) (144 + 8 * i) = rd (A 48) i ∧ (rd (A 48) i = 3 ∨ rd (A 100) (144 + 8 * i + 1) = rd (A 49) i) ∧ (rd (A 48) i = 1 ∨ rd (A 48) i = 2 → rd (A 100) (144 + 8 * i + 2) = rd (A 50) i) ∧ (rd (A 48) i = 0 ∨ rd (A 48) i = 3 → rd (A 100) (144 + 8 * i + 3) = rd (A 51) i) ∧ (rd (A 48) i = 1 → rd (A 100) (144 + 8 * i + 4) = rd (A 52) i ∧ (rd (A 52) i = 0 ∨ rd (A 52) i = 1) ∧ 0 ≤ rd (A 50) i ∧ rd (A 50) i < F 3) := by
  have hD := D_at3 hR0 hd
  have z := hD.2.2.2.2.2 i.toNat (by omega)
  have z9 := hD.1.2.2.2 i.toNat (by omega)
  have e9 : ((i.toNat : Nat) : Int) = i := by omega
  have eN := R_n hR0
  rw [e9] at z z9
  rw [eN] at z9
  exact ⟨z.1, z.2.1, z.2.2.1, z.2.2.2.1, fun q => ⟨z.2.2.2.2.1 q, (z9.2.2.2.2.2.2.1 q).1, (z9.2.2.2.2.1 (.inl q)).1, (z9.2.2.2.2.1 (.inl q)).2⟩⟩

theorem mI_4 {c : Int} {A : Nat → List Int} {F : Nat → Int} (hR0 : REL c A F) (hd : (4 : Int) < F 0) {i : Int} (q1 : 0 ≤ i) (q2 : i < F 12) : rd (A 100) (192 + 8 * i) = rd (A 57) i ∧ (rd (A 57) i = 3 ∨ rd (A 100) (192 + 8 * i + 1) = rd (A 58) i) ∧ (rd (A 57) i = 1 ∨ rd (A 57) i = 2 → rd (A 100) (192 + 8 * i + 2) = rd (A 59) i) ∧ (rd (A 57) i = 0 ∨ rd (A 57) i = 3 → rd (A 100) (192 + 8 * i + 3) = rd (A 60) i) ∧ (rd (A 57) i = 1 → rd (A 100) (192 + 8 * i + 4) = rd (A 61) i ∧ (rd (A 61) i = 0 ∨ rd (A 61) i = 1) ∧ 0 ≤ rd (A 59) i ∧ rd (A 59) i < F 3) := by
  have hD := D_at4 hR0 hd
  have z := hD.2.2.2.2.2 i.toNat (by omega)
  have z9 := hD.1.2.2.2 i.toNat (by omega)
  have e9 : ((i.toNat : Nat) : Int) = i := by omega
  have eN := R_n hR0
  rw [e9] at z z9
  rw [eN] at z9
  exact ⟨z.1, z.2.1, z.2.2.1, z.2.2.2.1, fun q => ⟨z.2.2.2.2.1 q, (z9.2.2.2.2.2.2.1 q).1, (z9.2.2.2.2.1 (.inl q)).1, (z9.2.2.2.2.1 (.inl q)).2⟩⟩

theorem mI_5 {c : Int} {A : Nat → List Int} {F : Nat → Int} (hR0 : REL c A F) (hd : (5 : Int) < F 0) {i : Int} (q1 : 0 ≤ i) (q2 : i < F 13) : rd (A 100) (240 + 8 * i) = rd (A 66) i ∧ (rd (A 66) i = 3 ∨ rd (A 100) (240 + 8 * i + 1) = rd (A 67) i) ∧ (rd (A 66) i = 1 ∨ rd (A 66) i = 2 → rd (A 100) (240 + 8 * i + 2) = rd (A 68) i) ∧ (rd (A 66) i = 0 ∨ rd (A 66) i = 3 → rd (A 100) (240 + 8 * i + 3) = rd (A 69) i) ∧ (rd (A 66) i = 1 → rd (A 100) (240 + 8 * i + 4) = rd (A 70) i ∧ (rd (A 70) i = 0 ∨ rd (A 70) i = 1) ∧ 0 ≤ rd (A 68) i ∧ rd (A 68) i < F 3) := by
  have hD := D_at5 hR0 hd
  have z := hD.2.2.2.2.2 i.toNat (by omega)
  have z9 := hD.1.2.2.2 i.toNat (by omega)
  have e9 : ((i.toNat : Nat) : Int) = i := by omega
  have eN := R_n hR0
  rw [e9] at z z9
  rw [eN] at z9
  exact ⟨z.1, z.2.1, z.2.2.1, z.2.2.2.1, fun q => ⟨z.2.2.2.2.1 q, (z9.2.2.2.2.2.2.1 q).1, (z9.2.2.2.2.1 (.inl q)).1, (z9.2.2.2.2.1 (.inl q)).2⟩⟩

set_option maxHeartbeats 4000000 in
theorem op_end_n {c : Int} {A : Nat → List Int} {F : Nat → Int} (hR : REL c A F) (hc : c < 512) (d i q : Int) (i_d : inI d) (i_i : inI i) (i_q : inI q) (hd : d < 0) : R 73 (0, L0 73 [vR 1, vI d, vI i, vI q], [], LAY (shA A) (shF F), 0, 0) (fun r G => R 147 (0, L0 147 [vR 88, vI d, vI i, vI q], [], G, 0, 0) (fun r2 G2 => r2 = r ∧ ∃ (A' : Nat → List Int) (F' : Nat → Int), G2 = LAY (shA A') (shF F') ∧ A' 0 = A 0 ∧ REL (c + 1) A' F')) := by
  have hR0 := hR
  obtain ⟨hL, hPE, hTH, hTP, hDE, hLE, hNO, hAC, hRO, hRE⟩ := hR
  have j_d := i_d
  unfold inI at j_d
  have j_i := i_i
  unfold inI at j_i
  have j_q := i_q
  unfold inI at j_q
  have h87 : (A 87).length = 9 := hL 87 (by decide)
  have r2 := REFU_at hRE (k := 2) (by decide) (by decide) hc
  have r3 := REFU_at hRE (k := 3) (by decide) (by decide) hc
  have r4 := REFU_at hRE (k := 4) (by decide) (by decide) hc
  have r5 := REFU_at hRE (k := 5) (by decide) (by decide) hc
  have r6 := REFU_at hRE (k := 6) (by decide) (by decide) hc
  have r7 := REFU_at hRE (k := 7) (by decide) (by decide) hc
  have r8 := REFU_at hRE (k := 8) (by decide) (by decide) hc
  obtain ⟨t1, t2, t3, t4, t5, t6⟩ := hTH
  obtain ⟨p1, p2, p3, p4, p5, p6⟩ := hPE
  refine R_s (P := True) (f' := (2, [some (vR 1), some (vI d), some (vI i), some (vI q), none, none], [vI d, vR 1], LAY (shA A) (shF F), 0, 0)) hc73 2 rfl trivial ?_
  refine R_cv hc73 rfl rfl ?_ (fun r G h => h)
  refine R_s (P := True) (f' := (2, [some (vR 1), some (vI d)], [vI d, vR 1], LAY (shA A) (shF F), 0, 0)) hc99 2 rfl trivial ?_
  refine R_cv hc99 rfl rfl ?_ (fun r G h => h)
  refine R_s (P := True) (f' := (1, [some (vR 1), some (vI d)], [vI d], LAY (shA A) (shF F), 0, 0)) hc98 1 rfl trivial ?_
  refine R_if (t := 16) hc98 rfl rfl (fun (_ : d < 0) => ?_) (fun (z : ¬ (d < 0)) => absurd (show d < 0 by omega) z)
  refine R_s (P := True) (f' := (17, [some (vR 1), some (vI d)], [vI 0], LAY (shA A) (shF F), 0, 0)) hc98 1 rfl trivial ?_
  refine R_retz hc98 rfl rfl (Or.inl rfl) ?_
  refine R_s (f' := (5, [some (vR 1), some (vI d)], [vI 0], LAY (shA A) (shF F), 0, 0)) hc99 0 rfl trivial ?_
  refine R_if (t := 17) hc99 rfl rfl (fun (_ : 0 = 0) => ?_) (fun (z : ¬ (0 = 0)) => absurd (by decide) z)
  refine R_s (P := True) (f' := (18, [some (vR 1), some (vI d)], [vN], LAY (shA A) (shF F), 0, 0)) hc99 1 rfl trivial ?_
  refine R_reta hc99 rfl rfl ?_
  refine R_s (f' := (5, [some (vR 1), some (vI d), some (vI i), some (vI q), none, none], [vN], LAY (shA A) (shF F), 0, 0)) hc73 0 rfl trivial ?_
  refine R_s (P := True) (f' := (15, [some (vR 1), some (vI d), some (vI i), some (vI q), some (vN), none], [vI (-3), vR 1], LAY (shA A) (shF F), 0, 0)) hc73 5 rfl trivial ?_
  refine R_cv hc73 rfl rfl ?_ (fun r G h => h)
  refine R_s (P := True) (f' := (3, [some (vR 1), some (vI (-3))], [vI (-2), vI (-3)], LAY (shA A) (shF F), 0, 0)) hc93 2 rfl trivial ?_
  refine R_ic (t := 23) hc93 rfl rfl (fun (z : (-2) < (-3)) => absurd z (by decide)) (fun (_ : ¬ ((-2) < (-3))) => ?_)
  refine R_s (P := True) (f' := (9, [some (vR 1), some (vI (-3))], [vI (-8), vI (-3)], LAY (shA A) (shF F), 0, 0)) hc93 2 rfl trivial ?_
  refine R_ic (t := 23) hc93 rfl rfl (fun (z : (-3) < (-8)) => absurd z (by decide)) (fun (_ : ¬ ((-3) < (-8))) => ?_)
  refine R_s (P := inI 3 ∧ (0 ≤ 3 ∧ 3 < ((A 87).length : Int)) ∧ inI ((rd (A 87) 3) + 1) ∧ (0 ≤ 3 ∧ 3 < ((A 87).length : Int)) ∧ True) (f' := (24, [some (vR 1), some (vI (-3))], [vI (-3)], LAY (u (shA A) 87 (wr (A 87) 3 ((rd (A 87) 3) + 1))) (shF F), 0, 0)) hc93 10 rfl ⟨⟨by omega, by omega⟩, ⟨by omega, by omega⟩, ⟨by omega, by omega⟩, ⟨by omega, by omega⟩, trivial⟩ ?_
  refine R_reti hc93 rfl rfl ?_
  refine R_s (f' := (18, [some (vR 1), some (vI d), some (vI i), some (vI q), some (vN), none], [vI (-3)], LAY (u (shA A) 87 (wr (A 87) 3 ((rd (A 87) 3) + 1))) (shF F), 0, 0)) hc73 0 rfl trivial ?_
  refine R_reti hc73 rfl rfl ?_
  refine R_s (P := True) (f' := (2, [some (vR 88), some (vI d), some (vI i), some (vI q), none, none], [vI d, vR 88], LAY (u (shA A) 87 (wr (A 87) 3 ((rd (A 87) 3) + 1))) (shF F), 0, 0)) hc147 2 rfl trivial ?_
  refine R_cv hc147 rfl rfl ?_ (fun r G h => h)
  refine R_s (P := inI ((F 0) - 1) ∧ True) (f' := (8, [some (vR 88), some (vI d)], [vI ((F 0) - 1), vI 0, vI d], LAY (u (shA A) 87 (wr (A 87) 3 ((rd (A 87) 3) + 1))) (shF F), 0, 0)) hc108 6 rfl ⟨⟨by omega, by omega⟩, trivial⟩ ?_
  refine R_cs hc108 rfl rfl ?_ (fun r G h => h)
  refine R_s (P := True) (f' := (2, [some (vI d), some (vI 0), some (vI ((F 0) - 1))], [vI 0, vI d], LAY (u (shA A) 87 (wr (A 87) 3 ((rd (A 87) 3) + 1))) (shF F), 0, 0)) hc104 2 rfl trivial ?_
  refine R_ic (t := 14) hc104 rfl rfl (fun (_ : d < 0) => ?_) (fun (z : ¬ (d < 0)) => absurd (show d < 0 by omega) z)
  refine R_s (P := True) (f' := (15, [some (vI d), some (vI 0), some (vI ((F 0) - 1))], [vI 0], LAY (u (shA A) 87 (wr (A 87) 3 ((rd (A 87) 3) + 1))) (shF F), 0, 0)) hc104 1 rfl trivial ?_
  refine R_retz hc104 rfl rfl (Or.inl rfl) ?_
  refine R_s (f' := (11, [some (vR 88), some (vI d)], [vI 0], LAY (u (shA A) 87 (wr (A 87) 3 ((rd (A 87) 3) + 1))) (shF F), 0, 0)) hc108 0 rfl trivial ?_
  refine R_retz hc108 rfl rfl (Or.inl rfl) ?_
  refine R_s (f' := (5, [some (vR 88), some (vI d), some (vI i), some (vI q), none, none], [vI 0], LAY (u (shA A) 87 (wr (A 87) 3 ((rd (A 87) 3) + 1))) (shF F), 0, 0)) hc147 0 rfl trivial ?_
  refine R_if (t := 24) hc147 rfl rfl (fun (_ : 0 = 0) => ?_) (fun (z : ¬ (0 = 0)) => absurd (by decide) z)
  refine R_s (P := True) (f' := (27, [some (vR 88), some (vI d), some (vI i), some (vI q), none, none], [vI (-3), vR 88], LAY (u (shA A) 87 (wr (A 87) 3 ((rd (A 87) 3) + 1))) (shF F), 0, 0)) hc147 2 rfl trivial ?_
  refine R_cv hc147 rfl rfl ?_ (fun r G h => h)
  refine R_s (P := inI 3 ∧ (0 ≤ 3 ∧ 3 < ((A 87).length : Int)) ∧ inI ((rd (A 87) 3) + 1) ∧ (0 ≤ 3 ∧ 3 < ((A 87).length : Int)) ∧ True) (f' := (12, [some (vR 88), some (vI (-3))], [vI (-3)], LAY (u (u (shA A) 87 (wr (A 87) 3 ((rd (A 87) 3) + 1))) 89 (wr (A 87) 3 ((rd (A 87) 3) + 1))) (shF F), 0, 0)) hc105 10 rfl ⟨⟨by omega, by omega⟩, ⟨by omega, by omega⟩, ⟨by omega, by omega⟩, ⟨by omega, by omega⟩, trivial⟩ ?_
  refine R_reti hc105 rfl rfl ?_
  refine R_s (f' := (30, [some (vR 88), some (vI d), some (vI i), some (vI q), none, none], [vI (-3)], LAY (u (u (shA A) 87 (wr (A 87) 3 ((rd (A 87) 3) + 1))) 89 (wr (A 87) 3 ((rd (A 87) 3) + 1))) (shF F), 0, 0)) hc147 0 rfl trivial ?_
  refine R_reti hc147 rfl rfl ?_
  first
    | (exfalso; omega; done)
    | exact ⟨rfl, (u A 87 (wr (A 87) 3 ((rd (A 87) 3) + 1))), F, rfl, rfl, REL_ref hR0 (by decide) (by decide)⟩

set_option maxHeartbeats 4000000 in
theorem op_end_b {c : Int} {A : Nat → List Int} {F : Nat → Int} (hR : REL c A F) (hc : c < 512) (d i q : Int) (i_d : inI d) (i_i : inI i) (i_q : inI q) (hd : 0 ≤ d ∧ F 0 ≤ d) : R 73 (0, L0 73 [vR 1, vI d, vI i, vI q], [], LAY (shA A) (shF F), 0, 0) (fun r G => R 147 (0, L0 147 [vR 88, vI d, vI i, vI q], [], G, 0, 0) (fun r2 G2 => r2 = r ∧ ∃ (A' : Nat → List Int) (F' : Nat → Int), G2 = LAY (shA A') (shF F') ∧ A' 0 = A 0 ∧ REL (c + 1) A' F')) := by
  have hR0 := hR
  obtain ⟨hL, hPE, hTH, hTP, hDE, hLE, hNO, hAC, hRO, hRE⟩ := hR
  have j_d := i_d
  unfold inI at j_d
  have j_i := i_i
  unfold inI at j_i
  have j_q := i_q
  unfold inI at j_q
  have h87 : (A 87).length = 9 := hL 87 (by decide)
  have r2 := REFU_at hRE (k := 2) (by decide) (by decide) hc
  have r3 := REFU_at hRE (k := 3) (by decide) (by decide) hc
  have r4 := REFU_at hRE (k := 4) (by decide) (by decide) hc
  have r5 := REFU_at hRE (k := 5) (by decide) (by decide) hc
  have r6 := REFU_at hRE (k := 6) (by decide) (by decide) hc
  have r7 := REFU_at hRE (k := 7) (by decide) (by decide) hc
  have r8 := REFU_at hRE (k := 8) (by decide) (by decide) hc
  obtain ⟨t1, t2, t3, t4, t5, t6⟩ := hTH
  obtain ⟨p1, p2, p3, p4, p5, p6⟩ := hPE
  refine R_s (P := True) (f' := (2, [some (vR 1), some (vI d), some (vI i), some (vI q), none, none], [vI d, vR 1], LAY (shA A) (shF F), 0, 0)) hc73 2 rfl trivial ?_
  refine R_cv hc73 rfl rfl ?_ (fun r G h => h)
  refine R_s (P := True) (f' := (2, [some (vR 1), some (vI d)], [vI d, vR 1], LAY (shA A) (shF F), 0, 0)) hc99 2 rfl trivial ?_
  refine R_cv hc99 rfl rfl ?_ (fun r G h => h)
  refine R_s (P := True) (f' := (1, [some (vR 1), some (vI d)], [vI d], LAY (shA A) (shF F), 0, 0)) hc98 1 rfl trivial ?_
  refine R_if (t := 16) hc98 rfl rfl (fun (z : d < 0) => absurd z (by omega)) (fun (_ : ¬ (d < 0)) => ?_)
  refine R_s (P := True) (f' := (9, [some (vR 1), some (vI d)], [vI (F 0), vI d], LAY (shA A) (shF F), 0, 0)) hc98 3 rfl trivial ?_
  refine R_ic (t := 16) hc98 rfl rfl (fun (_ : F 0 ≤ d) => ?_) (fun (z : ¬ (F 0 ≤ d)) => absurd (show F 0 ≤ d by omega) z)
  refine R_s (P := True) (f' := (17, [some (vR 1), some (vI d)], [vI 0], LAY (shA A) (shF F), 0, 0)) hc98 1 rfl trivial ?_
  refine R_retz hc98 rfl rfl (Or.inl rfl) ?_
  refine R_s (f' := (5, [some (vR 1), some (vI d)], [vI 0], LAY (shA A) (shF F), 0, 0)) hc99 0 rfl trivial ?_
  refine R_if (t := 17) hc99 rfl rfl (fun (_ : 0 = 0) => ?_) (fun (z : ¬ (0 = 0)) => absurd (by decide) z)
  refine R_s (P := True) (f' := (18, [some (vR 1), some (vI d)], [vN], LAY (shA A) (shF F), 0, 0)) hc99 1 rfl trivial ?_
  refine R_reta hc99 rfl rfl ?_
  refine R_s (f' := (5, [some (vR 1), some (vI d), some (vI i), some (vI q), none, none], [vN], LAY (shA A) (shF F), 0, 0)) hc73 0 rfl trivial ?_
  refine R_s (P := True) (f' := (15, [some (vR 1), some (vI d), some (vI i), some (vI q), some (vN), none], [vI (-3), vR 1], LAY (shA A) (shF F), 0, 0)) hc73 5 rfl trivial ?_
  refine R_cv hc73 rfl rfl ?_ (fun r G h => h)
  refine R_s (P := True) (f' := (3, [some (vR 1), some (vI (-3))], [vI (-2), vI (-3)], LAY (shA A) (shF F), 0, 0)) hc93 2 rfl trivial ?_
  refine R_ic (t := 23) hc93 rfl rfl (fun (z : (-2) < (-3)) => absurd z (by decide)) (fun (_ : ¬ ((-2) < (-3))) => ?_)
  refine R_s (P := True) (f' := (9, [some (vR 1), some (vI (-3))], [vI (-8), vI (-3)], LAY (shA A) (shF F), 0, 0)) hc93 2 rfl trivial ?_
  refine R_ic (t := 23) hc93 rfl rfl (fun (z : (-3) < (-8)) => absurd z (by decide)) (fun (_ : ¬ ((-3) < (-8))) => ?_)
  refine R_s (P := inI 3 ∧ (0 ≤ 3 ∧ 3 < ((A 87).length : Int)) ∧ inI ((rd (A 87) 3) + 1) ∧ (0 ≤ 3 ∧ 3 < ((A 87).length : Int)) ∧ True) (f' := (24, [some (vR 1), some (vI (-3))], [vI (-3)], LAY (u (shA A) 87 (wr (A 87) 3 ((rd (A 87) 3) + 1))) (shF F), 0, 0)) hc93 10 rfl ⟨⟨by omega, by omega⟩, ⟨by omega, by omega⟩, ⟨by omega, by omega⟩, ⟨by omega, by omega⟩, trivial⟩ ?_
  refine R_reti hc93 rfl rfl ?_
  refine R_s (f' := (18, [some (vR 1), some (vI d), some (vI i), some (vI q), some (vN), none], [vI (-3)], LAY (u (shA A) 87 (wr (A 87) 3 ((rd (A 87) 3) + 1))) (shF F), 0, 0)) hc73 0 rfl trivial ?_
  refine R_reti hc73 rfl rfl ?_
  refine R_s (P := True) (f' := (2, [some (vR 88), some (vI d), some (vI i), some (vI q), none, none], [vI d, vR 88], LAY (u (shA A) 87 (wr (A 87) 3 ((rd (A 87) 3) + 1))) (shF F), 0, 0)) hc147 2 rfl trivial ?_
  refine R_cv hc147 rfl rfl ?_ (fun r G h => h)
  refine R_s (P := inI ((F 0) - 1) ∧ True) (f' := (8, [some (vR 88), some (vI d)], [vI ((F 0) - 1), vI 0, vI d], LAY (u (shA A) 87 (wr (A 87) 3 ((rd (A 87) 3) + 1))) (shF F), 0, 0)) hc108 6 rfl ⟨⟨by omega, by omega⟩, trivial⟩ ?_
  refine R_cs hc108 rfl rfl ?_ (fun r G h => h)
  refine R_s (P := True) (f' := (2, [some (vI d), some (vI 0), some (vI ((F 0) - 1))], [vI 0, vI d], LAY (u (shA A) 87 (wr (A 87) 3 ((rd (A 87) 3) + 1))) (shF F), 0, 0)) hc104 2 rfl trivial ?_
  refine R_ic (t := 14) hc104 rfl rfl (fun (z : d < 0) => absurd z (by omega)) (fun (_ : ¬ (d < 0)) => ?_)
  refine R_s (P := True) (f' := (7, [some (vI d), some (vI 0), some (vI ((F 0) - 1))], [vI ((F 0) - 1), vI d], LAY (u (shA A) 87 (wr (A 87) 3 ((rd (A 87) 3) + 1))) (shF F), 0, 0)) hc104 2 rfl trivial ?_
  refine R_ic (t := 14) hc104 rfl rfl (fun (_ : (F 0) - 1 < d) => ?_) (fun (z : ¬ ((F 0) - 1 < d)) => absurd (show (F 0) - 1 < d by omega) z)
  refine R_s (P := True) (f' := (15, [some (vI d), some (vI 0), some (vI ((F 0) - 1))], [vI 0], LAY (u (shA A) 87 (wr (A 87) 3 ((rd (A 87) 3) + 1))) (shF F), 0, 0)) hc104 1 rfl trivial ?_
  refine R_retz hc104 rfl rfl (Or.inl rfl) ?_
  refine R_s (f' := (11, [some (vR 88), some (vI d)], [vI 0], LAY (u (shA A) 87 (wr (A 87) 3 ((rd (A 87) 3) + 1))) (shF F), 0, 0)) hc108 0 rfl trivial ?_
  refine R_retz hc108 rfl rfl (Or.inl rfl) ?_
  refine R_s (f' := (5, [some (vR 88), some (vI d), some (vI i), some (vI q), none, none], [vI 0], LAY (u (shA A) 87 (wr (A 87) 3 ((rd (A 87) 3) + 1))) (shF F), 0, 0)) hc147 0 rfl trivial ?_
  refine R_if (t := 24) hc147 rfl rfl (fun (_ : 0 = 0) => ?_) (fun (z : ¬ (0 = 0)) => absurd (by decide) z)
  refine R_s (P := True) (f' := (27, [some (vR 88), some (vI d), some (vI i), some (vI q), none, none], [vI (-3), vR 88], LAY (u (shA A) 87 (wr (A 87) 3 ((rd (A 87) 3) + 1))) (shF F), 0, 0)) hc147 2 rfl trivial ?_
  refine R_cv hc147 rfl rfl ?_ (fun r G h => h)
  refine R_s (P := inI 3 ∧ (0 ≤ 3 ∧ 3 < ((A 87).length : Int)) ∧ inI ((rd (A 87) 3) + 1) ∧ (0 ≤ 3 ∧ 3 < ((A 87).length : Int)) ∧ True) (f' := (12, [some (vR 88), some (vI (-3))], [vI (-3)], LAY (u (u (shA A) 87 (wr (A 87) 3 ((rd (A 87) 3) + 1))) 89 (wr (A 87) 3 ((rd (A 87) 3) + 1))) (shF F), 0, 0)) hc105 10 rfl ⟨⟨by omega, by omega⟩, ⟨by omega, by omega⟩, ⟨by omega, by omega⟩, ⟨by omega, by omega⟩, trivial⟩ ?_
  refine R_reti hc105 rfl rfl ?_
  refine R_s (f' := (30, [some (vR 88), some (vI d), some (vI i), some (vI q), none, none], [vI (-3)], LAY (u (u (shA A) 87 (wr (A 87) 3 ((rd (A 87) 3) + 1))) 89 (wr (A 87) 3 ((rd (A 87) 3) + 1))) (shF F), 0, 0)) hc147 0 rfl trivial ?_
  refine R_reti hc147 rfl rfl ?_
  first
    | (exfalso; omega; done)
    | exact ⟨rfl, (u A 87 (wr (A 87) 3 ((rd (A 87) 3) + 1))), F, rfl, rfl, REL_ref hR0 (by decide) (by decide)⟩

set_option maxHeartbeats 4000000 in
theorem op_end_0 {c : Int} {A : Nat → List Int} {F : Nat → Int} (hR : REL c A F) (hc : c < 512) (i q : Int) (i_i : inI i) (i_q : inI q) (hd : (0 : Int) < F 0) : R 73 (0, L0 73 [vR 1, vI 0, vI i, vI q], [], LAY (shA A) (shF F), 0, 0) (fun r G => R 147 (0, L0 147 [vR 88, vI 0, vI i, vI q], [], G, 0, 0) (fun r2 G2 => r2 = r ∧ ∃ (A' : Nat → List Int) (F' : Nat → Int), G2 = LAY (shA A') (shF F') ∧ A' 0 = A 0 ∧ REL (c + 1) A' F')) := by
  have hR0 := hR
  obtain ⟨hL, hPE, hTH, hTP, hDE, hLE, hNO, hAC, hRO, hRE⟩ := hR
  have j_i := i_i
  unfold inI at j_i
  have j_q := i_q
  unfold inI at j_q
  have h87 : (A 87).length = 9 := hL 87 (by decide)
  have h99 : (A 99).length = 6 := hL 99 (by decide)
  have r2 := REFU_at hRE (k := 2) (by decide) (by decide) hc
  have r3 := REFU_at hRE (k := 3) (by decide) (by decide) hc
  have r4 := REFU_at hRE (k := 4) (by decide) (by decide) hc
  have r5 := REFU_at hRE (k := 5) (by decide) (by decide) hc
  have r6 := REFU_at hRE (k := 6) (by decide) (by decide) hc
  have r7 := REFU_at hRE (k := 7) (by decide) (by decide) hc
  have r8 := REFU_at hRE (k := 8) (by decide) (by decide) hc
  obtain ⟨t1, t2, t3, t4, t5, t6⟩ := hTH
  obtain ⟨p1, p2, p3, p4, p5, p6⟩ := hPE
  have hD := D_at0 hR0 hd
  have he1 := hD.1.1
  have he2 := hD.1.2.1
  have hme : rd (A 99) 0 = F 8 := by
    have := hD.2.2.2.2.1
    omega
  obtain ⟨so, te, tp, mg, pm, lo, hS⟩ := SPL_ex A F (N_al A F) (N_Q A 21) (F 8).toNat (N_Y A F 0)
  have mE : 0 ≤ i → i < F 8 → rd (A 100) (0 + 8 * i) = rd (A 21) i := fun q1 q2 => (mI_0 hR0 hd q1 q2).1
  have hl0 : (A 21).length = 6 := hL 21 (by decide)
  have hl1 : (A 22).length = 6 := hL 22 (by decide)
  have hl2 : (A 23).length = 6 := hL 23 (by decide)
  have hl3 : (A 24).length = 6 := hL 24 (by decide)
  have hl4 : (A 25).length = 6 := hL 25 (by decide)
  have h100 : (A 100).length = 288 := hL 100 (by decide)
  refine R_s (P := True) (f' := (2, [some (vR 1), some (vI 0), some (vI i), some (vI q), none, none], [vI 0, vR 1], LAY (shA A) (shF F), 0, 0)) hc73 2 rfl trivial ?_
  refine R_cv hc73 rfl rfl ?_ (fun r G h => h)
  refine R_s (P := True) (f' := (2, [some (vR 1), some (vI 0)], [vI 0, vR 1], LAY (shA A) (shF F), 0, 0)) hc99 2 rfl trivial ?_
  refine R_cv hc99 rfl rfl ?_ (fun r G h => h)
  refine R_s (P := True) (f' := (1, [some (vR 1), some (vI 0)], [vI 0], LAY (shA A) (shF F), 0, 0)) hc98 1 rfl trivial ?_
  refine R_if (t := 16) hc98 rfl rfl (fun (z : 0 < 0) => absurd z (by decide)) (fun (_ : ¬ (0 < 0)) => ?_)
  refine R_s (P := True) (f' := (9, [some (vR 1), some (vI 0)], [vI (F 0), vI 0], LAY (shA A) (shF F), 0, 0)) hc98 3 rfl trivial ?_
  refine R_ic (t := 16) hc98 rfl rfl (fun (z : F 0 ≤ 0) => absurd z (by omega)) (fun (_ : ¬ (F 0 ≤ 0)) => ?_)
  refine R_s (P := True) (f' := (17, [some (vR 1), some (vI 0)], [vI 1], LAY (shA A) (shF F), 0, 0)) hc98 2 rfl trivial ?_
  refine R_retz hc98 rfl rfl (Or.inr rfl) ?_
  refine R_s (f' := (5, [some (vR 1), some (vI 0)], [vI 1], LAY (shA A) (shF F), 0, 0)) hc99 0 rfl trivial ?_
  refine R_if (t := 17) hc99 rfl rfl (fun (z : 1 = 0) => absurd z (by decide)) (fun (_ : ¬ (1 = 0)) => ?_)
  refine R_s (P := (0 ≤ (0 : Int) ∧ (0 : Int) < (([some 20, some 29, some 38, some 47, some 56, some 65] : List (Option Nat)).length : Int)) ∧ True) (f' := (18, [some (vR 1), some (vI 0)], [vR 20], LAY (shA A) (shF F), 0, 0)) hc99 5 rfl ⟨(by decide), trivial⟩ ?_
  refine R_reta hc99 rfl rfl ?_
  refine R_s (f' := (5, [some (vR 1), some (vI 0), some (vI i), some (vI q), none, none], [vR 20], LAY (shA A) (shF F), 0, 0)) hc73 0 rfl trivial ?_
  refine R_s (P := True) (f' := (21, [some (vR 1), some (vI 0), some (vI i), some (vI q), some (vR 20), none], [vI (-1), vI i], LAY (shA A) (shF F), 0, 0)) hc73 5 rfl trivial ?_
  refine R_ic (t := 30) hc73 rfl rfl (fun (c4 : ¬ i = (-1)) => ?_) (fun (c4 : ¬ (¬ i = (-1))) => ?_)
  · refine R_s (P := True) (f' := (33, [some (vR 1), some (vI 0), some (vI i), some (vI q), some (vR 20), none], [vI i, vR 20], LAY (shA A) (shF F), 0, 0)) hc73 2 rfl trivial ?_
    refine R_cv hc73 rfl rfl ?_ (fun r G h => h)
    refine R_s (P := True) (f' := (1, [some (vR 20), some (vI i)], [vI i], LAY (shA A) (shF F), 0, 0)) hc1 1 rfl trivial ?_
    refine R_if (t := 16) hc1 rfl rfl (fun (c5 : i < 0) => ?_) (fun (c5 : ¬ (i < 0)) => ?_)
    · refine R_s (P := True) (f' := (17, [some (vR 20), some (vI i)], [vI 0], LAY (shA A) (shF F), 0, 0)) hc1 1 rfl trivial ?_
      refine R_retz hc1 rfl rfl (Or.inl rfl) ?_
      refine R_s (f' := (36, [some (vR 1), some (vI 0), some (vI i), some (vI q), some (vR 20), none], [vI 0], LAY (shA A) (shF F), 0, 0)) hc73 0 rfl trivial ?_
      refine R_if (t := 46) hc73 rfl rfl (fun (z : ¬ 0 = 0) => absurd z (by decide)) (fun (_ : ¬ (¬ 0 = 0)) => ?_)
      refine R_s (P := True) (f' := (42, [some (vR 1), some (vI 0), some (vI i), some (vI q), some (vR 20), none], [vI (-3), vR 1], LAY (shA A) (shF F), 0, 0)) hc73 2 rfl trivial ?_
      refine R_cv hc73 rfl rfl ?_ (fun r G h => h)
      refine R_s (P := True) (f' := (3, [some (vR 1), some (vI (-3))], [vI (-2), vI (-3)], LAY (shA A) (shF F), 0, 0)) hc93 2 rfl trivial ?_
      refine R_ic (t := 23) hc93 rfl rfl (fun (z : (-2) < (-3)) => absurd z (by decide)) (fun (_ : ¬ ((-2) < (-3))) => ?_)
      refine R_s (P := True) (f' := (9, [some (vR 1), some (vI (-3))], [vI (-8), vI (-3)], LAY (shA A) (shF F), 0, 0)) hc93 2 rfl trivial ?_
      refine R_ic (t := 23) hc93 rfl rfl (fun (z : (-3) < (-8)) => absurd z (by decide)) (fun (_ : ¬ ((-3) < (-8))) => ?_)
      refine R_s (P := inI 3 ∧ (0 ≤ 3 ∧ 3 < ((A 87).length : Int)) ∧ inI ((rd (A 87) 3) + 1) ∧ (0 ≤ 3 ∧ 3 < ((A 87).length : Int)) ∧ True) (f' := (24, [some (vR 1), some (vI (-3))], [vI (-3)], LAY (u (shA A) 87 (wr (A 87) 3 ((rd (A 87) 3) + 1))) (shF F), 0, 0)) hc93 10 rfl ⟨⟨by omega, by omega⟩, ⟨by omega, by omega⟩, ⟨by omega, by omega⟩, ⟨by omega, by omega⟩, trivial⟩ ?_
      refine R_reti hc93 rfl rfl ?_
      refine R_s (f' := (45, [some (vR 1), some (vI 0), some (vI i), some (vI q), some (vR 20), none], [vI (-3)], LAY (u (shA A) 87 (wr (A 87) 3 ((rd (A 87) 3) + 1))) (shF F), 0, 0)) hc73 0 rfl trivial ?_
      refine R_reti hc73 rfl rfl ?_
      refine R_s (P := True) (f' := (2, [some (vR 88), some (vI 0), some (vI i), some (vI q), none, none], [vI 0, vR 88], LAY (u (shA A) 87 (wr (A 87) 3 ((rd (A 87) 3) + 1))) (shF F), 0, 0)) hc147 2 rfl trivial ?_
      refine R_cv hc147 rfl rfl ?_ (fun r G h => h)
      refine R_s (P := inI ((F 0) - 1) ∧ True) (f' := (8, [some (vR 88), some (vI 0)], [vI ((F 0) - 1), vI 0, vI 0], LAY (u (shA A) 87 (wr (A 87) 3 ((rd (A 87) 3) + 1))) (shF F), 0, 0)) hc108 6 rfl ⟨⟨by omega, by omega⟩, trivial⟩ ?_
      refine R_cs hc108 rfl rfl ?_ (fun r G h => h)
      refine R_s (P := True) (f' := (2, [some (vI 0), some (vI 0), some (vI ((F 0) - 1))], [vI 0, vI 0], LAY (u (shA A) 87 (wr (A 87) 3 ((rd (A 87) 3) + 1))) (shF F), 0, 0)) hc104 2 rfl trivial ?_
      refine R_ic (t := 14) hc104 rfl rfl (fun (z : 0 < 0) => absurd z (by decide)) (fun (_ : ¬ (0 < 0)) => ?_)
      refine R_s (P := True) (f' := (7, [some (vI 0), some (vI 0), some (vI ((F 0) - 1))], [vI ((F 0) - 1), vI 0], LAY (u (shA A) 87 (wr (A 87) 3 ((rd (A 87) 3) + 1))) (shF F), 0, 0)) hc104 2 rfl trivial ?_
      refine R_ic (t := 14) hc104 rfl rfl (fun (z : (F 0) - 1 < 0) => absurd z (by omega)) (fun (_ : ¬ ((F 0) - 1 < 0)) => ?_)
      refine R_s (P := True) (f' := (15, [some (vI 0), some (vI 0), some (vI ((F 0) - 1))], [vI 1], LAY (u (shA A) 87 (wr (A 87) 3 ((rd (A 87) 3) + 1))) (shF F), 0, 0)) hc104 2 rfl trivial ?_
      refine R_retz hc104 rfl rfl (Or.inr rfl) ?_
      refine R_s (f' := (11, [some (vR 88), some (vI 0)], [vI 1], LAY (u (shA A) 87 (wr (A 87) 3 ((rd (A 87) 3) + 1))) (shF F), 0, 0)) hc108 0 rfl trivial ?_
      refine R_retz hc108 rfl rfl (Or.inr rfl) ?_
      refine R_s (f' := (5, [some (vR 88), some (vI 0), some (vI i), some (vI q), none, none], [vI 1], LAY (u (shA A) 87 (wr (A 87) 3 ((rd (A 87) 3) + 1))) (shF F), 0, 0)) hc147 0 rfl trivial ?_
      refine R_if (t := 24) hc147 rfl rfl (fun (z : 1 = 0) => absurd z (by decide)) (fun (_ : ¬ (1 = 0)) => ?_)
      refine R_s (P := (0 ≤ 0 ∧ 0 < ((A 99).length : Int)) ∧ inI ((rd (A 99) 0) - 1) ∧ True) (f' := (18, [some (vR 88), some (vI 0), some (vI i), some (vI q), none, none], [vI ((rd (A 99) 0) - 1), vI (-1), vI i], LAY (u (shA A) 87 (wr (A 87) 3 ((rd (A 87) 3) + 1))) (shF F), 0, 0)) hc147 8 rfl ⟨⟨by omega, by omega⟩, ⟨by omega, by omega⟩, trivial⟩ ?_
      refine R_cs hc147 rfl rfl ?_ (fun r G h => h)
      refine R_s (P := True) (f' := (2, [some (vI i), some (vI (-1)), some (vI ((rd (A 99) 0) - 1))], [vI (-1), vI i], LAY (u (shA A) 87 (wr (A 87) 3 ((rd (A 87) 3) + 1))) (shF F), 0, 0)) hc104 2 rfl trivial ?_
      refine R_ic (t := 14) hc104 rfl rfl (fun (_ : i < (-1)) => ?_) (fun (z : ¬ (i < (-1))) => absurd (show i < (-1) by omega) z)
      refine R_s (P := True) (f' := (15, [some (vI i), some (vI (-1)), some (vI ((rd (A 99) 0) - 1))], [vI 0], LAY (u (shA A) 87 (wr (A 87) 3 ((rd (A 87) 3) + 1))) (shF F), 0, 0)) hc104 1 rfl trivial ?_
      refine R_retz hc104 rfl rfl (Or.inl rfl) ?_
      refine R_s (f' := (21, [some (vR 88), some (vI 0), some (vI i), some (vI q), none, none], [vI 0], LAY (u (shA A) 87 (wr (A 87) 3 ((rd (A 87) 3) + 1))) (shF F), 0, 0)) hc147 0 rfl trivial ?_
      refine R_if (t := 31) hc147 rfl rfl (fun (z : ¬ 0 = 0) => absurd z (by decide)) (fun (_ : ¬ (¬ 0 = 0)) => ?_)
      refine R_s (P := True) (f' := (27, [some (vR 88), some (vI 0), some (vI i), some (vI q), none, none], [vI (-3), vR 88], LAY (u (shA A) 87 (wr (A 87) 3 ((rd (A 87) 3) + 1))) (shF F), 0, 0)) hc147 2 rfl trivial ?_
      refine R_cv hc147 rfl rfl ?_ (fun r G h => h)
      refine R_s (P := inI 3 ∧ (0 ≤ 3 ∧ 3 < ((A 87).length : Int)) ∧ inI ((rd (A 87) 3) + 1) ∧ (0 ≤ 3 ∧ 3 < ((A 87).length : Int)) ∧ True) (f' := (12, [some (vR 88), some (vI (-3))], [vI (-3)], LAY (u (u (shA A) 87 (wr (A 87) 3 ((rd (A 87) 3) + 1))) 89 (wr (A 87) 3 ((rd (A 87) 3) + 1))) (shF F), 0, 0)) hc105 10 rfl ⟨⟨by omega, by omega⟩, ⟨by omega, by omega⟩, ⟨by omega, by omega⟩, ⟨by omega, by omega⟩, trivial⟩ ?_
      refine R_reti hc105 rfl rfl ?_
      refine R_s (f' := (30, [some (vR 88), some (vI 0), some (vI i), some (vI q), none, none], [vI (-3)], LAY (u (u (shA A) 87 (wr (A 87) 3 ((rd (A 87) 3) + 1))) 89 (wr (A 87) 3 ((rd (A 87) 3) + 1))) (shF F), 0, 0)) hc147 0 rfl trivial ?_
      refine R_reti hc147 rfl rfl ?_
      first
        | (exfalso; omega; done)
        | exact ⟨rfl, (u A 87 (wr (A 87) 3 ((rd (A 87) 3) + 1))), F, rfl, rfl, REL_ref hR0 (by decide) (by decide)⟩
    · refine R_s (P := True) (f' := (9, [some (vR 20), some (vI i)], [vI (F 8), vI i], LAY (shA A) (shF F), 0, 0)) hc1 3 rfl trivial ?_
      refine R_ic (t := 16) hc1 rfl rfl (fun (c6 : F 8 ≤ i) => ?_) (fun (c6 : ¬ (F 8 ≤ i)) => ?_)
      · refine R_s (P := True) (f' := (17, [some (vR 20), some (vI i)], [vI 0], LAY (shA A) (shF F), 0, 0)) hc1 1 rfl trivial ?_
        refine R_retz hc1 rfl rfl (Or.inl rfl) ?_
        refine R_s (f' := (36, [some (vR 1), some (vI 0), some (vI i), some (vI q), some (vR 20), none], [vI 0], LAY (shA A) (shF F), 0, 0)) hc73 0 rfl trivial ?_
        refine R_if (t := 46) hc73 rfl rfl (fun (z : ¬ 0 = 0) => absurd z (by decide)) (fun (_ : ¬ (¬ 0 = 0)) => ?_)
        refine R_s (P := True) (f' := (42, [some (vR 1), some (vI 0), some (vI i), some (vI q), some (vR 20), none], [vI (-3), vR 1], LAY (shA A) (shF F), 0, 0)) hc73 2 rfl trivial ?_
        refine R_cv hc73 rfl rfl ?_ (fun r G h => h)
        refine R_s (P := True) (f' := (3, [some (vR 1), some (vI (-3))], [vI (-2), vI (-3)], LAY (shA A) (shF F), 0, 0)) hc93 2 rfl trivial ?_
        refine R_ic (t := 23) hc93 rfl rfl (fun (z : (-2) < (-3)) => absurd z (by decide)) (fun (_ : ¬ ((-2) < (-3))) => ?_)
        refine R_s (P := True) (f' := (9, [some (vR 1), some (vI (-3))], [vI (-8), vI (-3)], LAY (shA A) (shF F), 0, 0)) hc93 2 rfl trivial ?_
        refine R_ic (t := 23) hc93 rfl rfl (fun (z : (-3) < (-8)) => absurd z (by decide)) (fun (_ : ¬ ((-3) < (-8))) => ?_)
        refine R_s (P := inI 3 ∧ (0 ≤ 3 ∧ 3 < ((A 87).length : Int)) ∧ inI ((rd (A 87) 3) + 1) ∧ (0 ≤ 3 ∧ 3 < ((A 87).length : Int)) ∧ True) (f' := (24, [some (vR 1), some (vI (-3))], [vI (-3)], LAY (u (shA A) 87 (wr (A 87) 3 ((rd (A 87) 3) + 1))) (shF F), 0, 0)) hc93 10 rfl ⟨⟨by omega, by omega⟩, ⟨by omega, by omega⟩, ⟨by omega, by omega⟩, ⟨by omega, by omega⟩, trivial⟩ ?_
        refine R_reti hc93 rfl rfl ?_
        refine R_s (f' := (45, [some (vR 1), some (vI 0), some (vI i), some (vI q), some (vR 20), none], [vI (-3)], LAY (u (shA A) 87 (wr (A 87) 3 ((rd (A 87) 3) + 1))) (shF F), 0, 0)) hc73 0 rfl trivial ?_
        refine R_reti hc73 rfl rfl ?_
        refine R_s (P := True) (f' := (2, [some (vR 88), some (vI 0), some (vI i), some (vI q), none, none], [vI 0, vR 88], LAY (u (shA A) 87 (wr (A 87) 3 ((rd (A 87) 3) + 1))) (shF F), 0, 0)) hc147 2 rfl trivial ?_
        refine R_cv hc147 rfl rfl ?_ (fun r G h => h)
        refine R_s (P := inI ((F 0) - 1) ∧ True) (f' := (8, [some (vR 88), some (vI 0)], [vI ((F 0) - 1), vI 0, vI 0], LAY (u (shA A) 87 (wr (A 87) 3 ((rd (A 87) 3) + 1))) (shF F), 0, 0)) hc108 6 rfl ⟨⟨by omega, by omega⟩, trivial⟩ ?_
        refine R_cs hc108 rfl rfl ?_ (fun r G h => h)
        refine R_s (P := True) (f' := (2, [some (vI 0), some (vI 0), some (vI ((F 0) - 1))], [vI 0, vI 0], LAY (u (shA A) 87 (wr (A 87) 3 ((rd (A 87) 3) + 1))) (shF F), 0, 0)) hc104 2 rfl trivial ?_
        refine R_ic (t := 14) hc104 rfl rfl (fun (z : 0 < 0) => absurd z (by decide)) (fun (_ : ¬ (0 < 0)) => ?_)
        refine R_s (P := True) (f' := (7, [some (vI 0), some (vI 0), some (vI ((F 0) - 1))], [vI ((F 0) - 1), vI 0], LAY (u (shA A) 87 (wr (A 87) 3 ((rd (A 87) 3) + 1))) (shF F), 0, 0)) hc104 2 rfl trivial ?_
        refine R_ic (t := 14) hc104 rfl rfl (fun (z : (F 0) - 1 < 0) => absurd z (by omega)) (fun (_ : ¬ ((F 0) - 1 < 0)) => ?_)
        refine R_s (P := True) (f' := (15, [some (vI 0), some (vI 0), some (vI ((F 0) - 1))], [vI 1], LAY (u (shA A) 87 (wr (A 87) 3 ((rd (A 87) 3) + 1))) (shF F), 0, 0)) hc104 2 rfl trivial ?_
        refine R_retz hc104 rfl rfl (Or.inr rfl) ?_
        refine R_s (f' := (11, [some (vR 88), some (vI 0)], [vI 1], LAY (u (shA A) 87 (wr (A 87) 3 ((rd (A 87) 3) + 1))) (shF F), 0, 0)) hc108 0 rfl trivial ?_
        refine R_retz hc108 rfl rfl (Or.inr rfl) ?_
        refine R_s (f' := (5, [some (vR 88), some (vI 0), some (vI i), some (vI q), none, none], [vI 1], LAY (u (shA A) 87 (wr (A 87) 3 ((rd (A 87) 3) + 1))) (shF F), 0, 0)) hc147 0 rfl trivial ?_
        refine R_if (t := 24) hc147 rfl rfl (fun (z : 1 = 0) => absurd z (by decide)) (fun (_ : ¬ (1 = 0)) => ?_)
        refine R_s (P := (0 ≤ 0 ∧ 0 < ((A 99).length : Int)) ∧ inI ((rd (A 99) 0) - 1) ∧ True) (f' := (18, [some (vR 88), some (vI 0), some (vI i), some (vI q), none, none], [vI ((rd (A 99) 0) - 1), vI (-1), vI i], LAY (u (shA A) 87 (wr (A 87) 3 ((rd (A 87) 3) + 1))) (shF F), 0, 0)) hc147 8 rfl ⟨⟨by omega, by omega⟩, ⟨by omega, by omega⟩, trivial⟩ ?_
        refine R_cs hc147 rfl rfl ?_ (fun r G h => h)
        refine R_s (P := True) (f' := (2, [some (vI i), some (vI (-1)), some (vI ((rd (A 99) 0) - 1))], [vI (-1), vI i], LAY (u (shA A) 87 (wr (A 87) 3 ((rd (A 87) 3) + 1))) (shF F), 0, 0)) hc104 2 rfl trivial ?_
        refine R_ic (t := 14) hc104 rfl rfl (fun (z : i < (-1)) => absurd z (by omega)) (fun (_ : ¬ (i < (-1))) => ?_)
        refine R_s (P := True) (f' := (7, [some (vI i), some (vI (-1)), some (vI ((rd (A 99) 0) - 1))], [vI ((rd (A 99) 0) - 1), vI i], LAY (u (shA A) 87 (wr (A 87) 3 ((rd (A 87) 3) + 1))) (shF F), 0, 0)) hc104 2 rfl trivial ?_
        refine R_ic (t := 14) hc104 rfl rfl (fun (_ : (rd (A 99) 0) - 1 < i) => ?_) (fun (z : ¬ ((rd (A 99) 0) - 1 < i)) => absurd (show (rd (A 99) 0) - 1 < i by omega) z)
        refine R_s (P := True) (f' := (15, [some (vI i), some (vI (-1)), some (vI ((rd (A 99) 0) - 1))], [vI 0], LAY (u (shA A) 87 (wr (A 87) 3 ((rd (A 87) 3) + 1))) (shF F), 0, 0)) hc104 1 rfl trivial ?_
        refine R_retz hc104 rfl rfl (Or.inl rfl) ?_
        refine R_s (f' := (21, [some (vR 88), some (vI 0), some (vI i), some (vI q), none, none], [vI 0], LAY (u (shA A) 87 (wr (A 87) 3 ((rd (A 87) 3) + 1))) (shF F), 0, 0)) hc147 0 rfl trivial ?_
        refine R_if (t := 31) hc147 rfl rfl (fun (z : ¬ 0 = 0) => absurd z (by decide)) (fun (_ : ¬ (¬ 0 = 0)) => ?_)
        refine R_s (P := True) (f' := (27, [some (vR 88), some (vI 0), some (vI i), some (vI q), none, none], [vI (-3), vR 88], LAY (u (shA A) 87 (wr (A 87) 3 ((rd (A 87) 3) + 1))) (shF F), 0, 0)) hc147 2 rfl trivial ?_
        refine R_cv hc147 rfl rfl ?_ (fun r G h => h)
        refine R_s (P := inI 3 ∧ (0 ≤ 3 ∧ 3 < ((A 87).length : Int)) ∧ inI ((rd (A 87) 3) + 1) ∧ (0 ≤ 3 ∧ 3 < ((A 87).length : Int)) ∧ True) (f' := (12, [some (vR 88), some (vI (-3))], [vI (-3)], LAY (u (u (shA A) 87 (wr (A 87) 3 ((rd (A 87) 3) + 1))) 89 (wr (A 87) 3 ((rd (A 87) 3) + 1))) (shF F), 0, 0)) hc105 10 rfl ⟨⟨by omega, by omega⟩, ⟨by omega, by omega⟩, ⟨by omega, by omega⟩, ⟨by omega, by omega⟩, trivial⟩ ?_
        refine R_reti hc105 rfl rfl ?_
        refine R_s (f' := (30, [some (vR 88), some (vI 0), some (vI i), some (vI q), none, none], [vI (-3)], LAY (u (u (shA A) 87 (wr (A 87) 3 ((rd (A 87) 3) + 1))) 89 (wr (A 87) 3 ((rd (A 87) 3) + 1))) (shF F), 0, 0)) hc147 0 rfl trivial ?_
        refine R_reti hc147 rfl rfl ?_
        first
          | (exfalso; omega; done)
          | exact ⟨rfl, (u A 87 (wr (A 87) 3 ((rd (A 87) 3) + 1))), F, rfl, rfl, REL_ref hR0 (by decide) (by decide)⟩
      · refine R_s (P := True) (f' := (17, [some (vR 20), some (vI i)], [vI 1], LAY (shA A) (shF F), 0, 0)) hc1 2 rfl trivial ?_
        refine R_retz hc1 rfl rfl (Or.inr rfl) ?_
        refine R_s (f' := (36, [some (vR 1), some (vI 0), some (vI i), some (vI q), some (vR 20), none], [vI 1], LAY (shA A) (shF F), 0, 0)) hc73 0 rfl trivial ?_
        refine R_if (t := 46) hc73 rfl rfl (fun (_ : ¬ 1 = 0) => ?_) (fun (z : ¬ (¬ 1 = 0)) => absurd (by decide) z)
        refine R_s (P := (0 ≤ i ∧ i < ((A 21).length : Int)) ∧ True) (f' := (56, [some (vR 1), some (vI 0), some (vI i), some (vI q), some (vR 20), some (vI (rd (A 21) i))], [vI q], LAY (shA A) (shF F), 0, 0)) hc73 6 rfl ⟨⟨by omega, by omega⟩, trivial⟩ ?_
        refine R_sw (t := 225) hc73 rfl (by decide) (fun isw o hio (c8 : q = 0 + isw) => ?_) rfl (fun (c8 : q < 0 ∨ 5 < q) => ?_)
        · match isw, hio, c8 with
          | 0, hio, c8 =>
            cases hio
            refine R_s (f' := (96, [some (vR 1), some (vI 0), some (vI i), some (vI q), some (vR 20), some (vI (rd (A 21) i))], [], LAY (shA A) (shF F), 0, 0)) hc73 0 rfl trivial ?_
            refine R_s (P := True) (f' := (98, [some (vR 1), some (vI 0), some (vI i), some (vI q), some (vR 20), some (vI (rd (A 21) i))], [vI (rd (A 21) i)], LAY (shA A) (shF F), 0, 0)) hc73 1 rfl trivial ?_
            refine R_reti hc73 rfl rfl ?_
            refine R_s (P := True) (f' := (2, [some (vR 88), some (vI 0), some (vI i), some (vI q), none, none], [vI 0, vR 88], LAY (shA A) (shF F), 0, 0)) hc147 2 rfl trivial ?_
            refine R_cv hc147 rfl rfl ?_ (fun r G h => h)
            refine R_s (P := inI ((F 0) - 1) ∧ True) (f' := (8, [some (vR 88), some (vI 0)], [vI ((F 0) - 1), vI 0, vI 0], LAY (shA A) (shF F), 0, 0)) hc108 6 rfl ⟨⟨by omega, by omega⟩, trivial⟩ ?_
            refine R_cs hc108 rfl rfl ?_ (fun r G h => h)
            refine R_s (P := True) (f' := (2, [some (vI 0), some (vI 0), some (vI ((F 0) - 1))], [vI 0, vI 0], LAY (shA A) (shF F), 0, 0)) hc104 2 rfl trivial ?_
            refine R_ic (t := 14) hc104 rfl rfl (fun (z : 0 < 0) => absurd z (by decide)) (fun (_ : ¬ (0 < 0)) => ?_)
            refine R_s (P := True) (f' := (7, [some (vI 0), some (vI 0), some (vI ((F 0) - 1))], [vI ((F 0) - 1), vI 0], LAY (shA A) (shF F), 0, 0)) hc104 2 rfl trivial ?_
            refine R_ic (t := 14) hc104 rfl rfl (fun (z : (F 0) - 1 < 0) => absurd z (by omega)) (fun (_ : ¬ ((F 0) - 1 < 0)) => ?_)
            refine R_s (P := True) (f' := (15, [some (vI 0), some (vI 0), some (vI ((F 0) - 1))], [vI 1], LAY (shA A) (shF F), 0, 0)) hc104 2 rfl trivial ?_
            refine R_retz hc104 rfl rfl (Or.inr rfl) ?_
            refine R_s (f' := (11, [some (vR 88), some (vI 0)], [vI 1], LAY (shA A) (shF F), 0, 0)) hc108 0 rfl trivial ?_
            refine R_retz hc108 rfl rfl (Or.inr rfl) ?_
            refine R_s (f' := (5, [some (vR 88), some (vI 0), some (vI i), some (vI q), none, none], [vI 1], LAY (shA A) (shF F), 0, 0)) hc147 0 rfl trivial ?_
            refine R_if (t := 24) hc147 rfl rfl (fun (z : 1 = 0) => absurd z (by decide)) (fun (_ : ¬ (1 = 0)) => ?_)
            refine R_s (P := (0 ≤ 0 ∧ 0 < ((A 99).length : Int)) ∧ inI ((rd (A 99) 0) - 1) ∧ True) (f' := (18, [some (vR 88), some (vI 0), some (vI i), some (vI q), none, none], [vI ((rd (A 99) 0) - 1), vI (-1), vI i], LAY (shA A) (shF F), 0, 0)) hc147 8 rfl ⟨⟨by omega, by omega⟩, ⟨by omega, by omega⟩, trivial⟩ ?_
            refine R_cs hc147 rfl rfl ?_ (fun r G h => h)
            refine R_s (P := True) (f' := (2, [some (vI i), some (vI (-1)), some (vI ((rd (A 99) 0) - 1))], [vI (-1), vI i], LAY (shA A) (shF F), 0, 0)) hc104 2 rfl trivial ?_
            refine R_ic (t := 14) hc104 rfl rfl (fun (z : i < (-1)) => absurd z (by omega)) (fun (_ : ¬ (i < (-1))) => ?_)
            refine R_s (P := True) (f' := (7, [some (vI i), some (vI (-1)), some (vI ((rd (A 99) 0) - 1))], [vI ((rd (A 99) 0) - 1), vI i], LAY (shA A) (shF F), 0, 0)) hc104 2 rfl trivial ?_
            refine R_ic (t := 14) hc104 rfl rfl (fun (z : (rd (A 99) 0) - 1 < i) => absurd z (by omega)) (fun (_ : ¬ ((rd (A 99) 0) - 1 < i)) => ?_)
            refine R_s (P := True) (f' := (15, [some (vI i), some (vI (-1)), some (vI ((rd (A 99) 0) - 1))], [vI 1], LAY (shA A) (shF F), 0, 0)) hc104 2 rfl trivial ?_
            refine R_retz hc104 rfl rfl (Or.inr rfl) ?_
            refine R_s (f' := (21, [some (vR 88), some (vI 0), some (vI i), some (vI q), none, none], [vI 1], LAY (shA A) (shF F), 0, 0)) hc147 0 rfl trivial ?_
            refine R_if (t := 31) hc147 rfl rfl (fun (_ : ¬ 1 = 0) => ?_) (fun (z : ¬ (¬ 1 = 0)) => absurd (by decide) z)
            refine R_s (P := True) (f' := (33, [some (vR 88), some (vI 0), some (vI i), some (vI q), none, none], [vI (-1), vI i], LAY (shA A) (shF F), 0, 0)) hc147 2 rfl trivial ?_
            refine R_ic (t := 43) hc147 rfl rfl (fun (_ : ¬ i = (-1)) => ?_) (fun (z : ¬ (¬ i = (-1))) => absurd (show ¬ i = (-1) by omega) z)
            refine R_s (P := True) (f' := (46, [some (vR 88), some (vI 0), some (vI i), some (vI q), none, none], [vI 5, vI 0, vI q], LAY (shA A) (shF F), 0, 0)) hc147 3 rfl trivial ?_
            refine R_cs hc147 rfl rfl ?_ (fun r G h => h)
            refine R_s (P := True) (f' := (2, [some (vI q), some (vI 0), some (vI 5)], [vI 0, vI q], LAY (shA A) (shF F), 0, 0)) hc104 2 rfl trivial ?_
            refine R_ic (t := 14) hc104 rfl rfl (fun (z : q < 0) => absurd z (by omega)) (fun (_ : ¬ (q < 0)) => ?_)
            refine R_s (P := True) (f' := (7, [some (vI q), some (vI 0), some (vI 5)], [vI 5, vI q], LAY (shA A) (shF F), 0, 0)) hc104 2 rfl trivial ?_
            refine R_ic (t := 14) hc104 rfl rfl (fun (z : 5 < q) => absurd z (by omega)) (fun (_ : ¬ (5 < q)) => ?_)
            refine R_s (P := True) (f' := (15, [some (vI q), some (vI 0), some (vI 5)], [vI 1], LAY (shA A) (shF F), 0, 0)) hc104 2 rfl trivial ?_
            refine R_retz hc104 rfl rfl (Or.inr rfl) ?_
            refine R_s (f' := (49, [some (vR 88), some (vI 0), some (vI i), some (vI q), none, none], [vI 1], LAY (shA A) (shF F), 0, 0)) hc147 0 rfl trivial ?_
            refine R_if (t := 59) hc147 rfl rfl (fun (_ : ¬ 1 = 0) => ?_) (fun (z : ¬ (¬ 1 = 0)) => absurd (by decide) z)
            refine R_s (P := inI 0 ∧ inI (8 * i) ∧ inI (0 + (8 * i)) ∧ (0 ≤ 0 + (8 * i) ∧ 0 + (8 * i) < ((A 100).length : Int)) ∧ True) (f' := (81, [some (vR 88), some (vI 0), some (vI i), some (vI q), some (vI (0 + (8 * i))), some (vI (rd (A 100) (0 + (8 * i))))], [vI 1, vI q], LAY (shA A) (shF F), 0, 0)) hc147 15 rfl ⟨⟨by omega, by omega⟩, ⟨by omega, by omega⟩, ⟨by omega, by omega⟩, ⟨by omega, by omega⟩, trivial⟩ ?_
            refine R_ic (t := 90) hc147 rfl rfl (fun (_ : ¬ q = 1) => ?_) (fun (z : ¬ (¬ q = 1)) => absurd (show ¬ q = 1 by omega) z)
            refine R_s (P := True) (f' := (92, [some (vR 88), some (vI 0), some (vI i), some (vI q), some (vI (0 + (8 * i))), some (vI (rd (A 100) (0 + (8 * i))))], [vI 2, vI q], LAY (shA A) (shF F), 0, 0)) hc147 2 rfl trivial ?_
            refine R_ic (t := 107) hc147 rfl rfl (fun (_ : ¬ q = 2) => ?_) (fun (z : ¬ (¬ q = 2)) => absurd (show ¬ q = 2 by omega) z)
            refine R_s (P := True) (f' := (109, [some (vR 88), some (vI 0), some (vI i), some (vI q), some (vI (0 + (8 * i))), some (vI (rd (A 100) (0 + (8 * i))))], [vI 3, vI q], LAY (shA A) (shF F), 0, 0)) hc147 2 rfl trivial ?_
            refine R_ic (t := 123) hc147 rfl rfl (fun (_ : ¬ q = 3) => ?_) (fun (z : ¬ (¬ q = 3)) => absurd (show ¬ q = 3 by omega) z)
            refine R_s (P := True) (f' := (125, [some (vR 88), some (vI 0), some (vI i), some (vI q), some (vI (0 + (8 * i))), some (vI (rd (A 100) (0 + (8 * i))))], [vI 4, vI q], LAY (shA A) (shF F), 0, 0)) hc147 2 rfl trivial ?_
            refine R_ic (t := 141) hc147 rfl rfl (fun (_ : ¬ q = 4) => ?_) (fun (z : ¬ (¬ q = 4)) => absurd (show ¬ q = 4 by omega) z)
            refine R_s (P := True) (f' := (143, [some (vR 88), some (vI 0), some (vI i), some (vI q), some (vI (0 + (8 * i))), some (vI (rd (A 100) (0 + (8 * i))))], [vI 5, vI q], LAY (shA A) (shF F), 0, 0)) hc147 2 rfl trivial ?_
            refine R_ic (t := 166) hc147 rfl rfl (fun (_ : ¬ q = 5) => ?_) (fun (z : ¬ (¬ q = 5)) => absurd (show ¬ q = 5 by omega) z)
            refine R_s (P := inI ((0 + (8 * i)) + q) ∧ (0 ≤ (0 + (8 * i)) + q ∧ (0 + (8 * i)) + q < ((A 100).length : Int)) ∧ True) (f' := (175, [some (vR 88), some (vI 0), some (vI i), some (vI q), some (vI (0 + (8 * i))), some (vI (rd (A 100) (0 + (8 * i))))], [vI (rd (A 100) ((0 + (8 * i)) + q))], LAY (shA A) (shF F), 0, 0)) hc147 6 rfl ⟨⟨by omega, by omega⟩, ⟨by omega, by omega⟩, trivial⟩ ?_
            refine R_reti hc147 rfl rfl ?_
            first
              | (exfalso; omega; done)
              | exact ⟨(by rw [show rd (A 100) ((0 + (8 * i)) + q) = rd (A 21) i by omega]), A, F, rfl, rfl, REL_c hR0⟩
              | (have e9 : rd (A 100) ((0 + (8 * i)) + q) = rd (A 21) i := (by rw [show q = 0 by omega, Int.add_zero]; exact mE (by omega) (by omega)); exact ⟨(by rw [show rd (A 100) ((0 + (8 * i)) + q) = rd (A 21) i by omega]), A, F, rfl, rfl, REL_c hR0⟩)
          | 1, hio, c8 =>
            cases hio
            refine R_s (f' := (99, [some (vR 1), some (vI 0), some (vI i), some (vI q), some (vR 20), some (vI (rd (A 21) i))], [], LAY (shA A) (shF F), 0, 0)) hc73 0 rfl trivial ?_
            refine R_s (P := True) (f' := (102, [some (vR 1), some (vI 0), some (vI i), some (vI q), some (vR 20), some (vI (rd (A 21) i))], [vI 3, vI (rd (A 21) i)], LAY (shA A) (shF F), 0, 0)) hc73 2 rfl trivial ?_
            refine R_ic (t := 114) hc73 rfl rfl (fun (c9 : ¬ rd (A 21) i = 3) => ?_) (fun (c9 : ¬ (¬ rd (A 21) i = 3)) => ?_)
            · refine R_s (P := (0 ≤ i ∧ i < ((A 22).length : Int)) ∧ True) (f' := (121, [some (vR 1), some (vI 0), some (vI i), some (vI q), some (vR 20), some (vI (rd (A 21) i))], [vI (rd (A 22) i)], LAY (shA A) (shF F), 0, 0)) hc73 4 rfl ⟨⟨by omega, by omega⟩, trivial⟩ ?_
              refine R_reti hc73 rfl rfl ?_
              refine R_s (P := True) (f' := (2, [some (vR 88), some (vI 0), some (vI i), some (vI q), none, none], [vI 0, vR 88], LAY (shA A) (shF F), 0, 0)) hc147 2 rfl trivial ?_
              refine R_cv hc147 rfl rfl ?_ (fun r G h => h)
              refine R_s (P := inI ((F 0) - 1) ∧ True) (f' := (8, [some (vR 88), some (vI 0)], [vI ((F 0) - 1), vI 0, vI 0], LAY (shA A) (shF F), 0, 0)) hc108 6 rfl ⟨⟨by omega, by omega⟩, trivial⟩ ?_
              refine R_cs hc108 rfl rfl ?_ (fun r G h => h)
              refine R_s (P := True) (f' := (2, [some (vI 0), some (vI 0), some (vI ((F 0) - 1))], [vI 0, vI 0], LAY (shA A) (shF F), 0, 0)) hc104 2 rfl trivial ?_
              refine R_ic (t := 14) hc104 rfl rfl (fun (z : 0 < 0) => absurd z (by decide)) (fun (_ : ¬ (0 < 0)) => ?_)
              refine R_s (P := True) (f' := (7, [some (vI 0), some (vI 0), some (vI ((F 0) - 1))], [vI ((F 0) - 1), vI 0], LAY (shA A) (shF F), 0, 0)) hc104 2 rfl trivial ?_
              refine R_ic (t := 14) hc104 rfl rfl (fun (z : (F 0) - 1 < 0) => absurd z (by omega)) (fun (_ : ¬ ((F 0) - 1 < 0)) => ?_)
              refine R_s (P := True) (f' := (15, [some (vI 0), some (vI 0), some (vI ((F 0) - 1))], [vI 1], LAY (shA A) (shF F), 0, 0)) hc104 2 rfl trivial ?_
              refine R_retz hc104 rfl rfl (Or.inr rfl) ?_
              refine R_s (f' := (11, [some (vR 88), some (vI 0)], [vI 1], LAY (shA A) (shF F), 0, 0)) hc108 0 rfl trivial ?_
              refine R_retz hc108 rfl rfl (Or.inr rfl) ?_
              refine R_s (f' := (5, [some (vR 88), some (vI 0), some (vI i), some (vI q), none, none], [vI 1], LAY (shA A) (shF F), 0, 0)) hc147 0 rfl trivial ?_
              refine R_if (t := 24) hc147 rfl rfl (fun (z : 1 = 0) => absurd z (by decide)) (fun (_ : ¬ (1 = 0)) => ?_)
              refine R_s (P := (0 ≤ 0 ∧ 0 < ((A 99).length : Int)) ∧ inI ((rd (A 99) 0) - 1) ∧ True) (f' := (18, [some (vR 88), some (vI 0), some (vI i), some (vI q), none, none], [vI ((rd (A 99) 0) - 1), vI (-1), vI i], LAY (shA A) (shF F), 0, 0)) hc147 8 rfl ⟨⟨by omega, by omega⟩, ⟨by omega, by omega⟩, trivial⟩ ?_
              refine R_cs hc147 rfl rfl ?_ (fun r G h => h)
              refine R_s (P := True) (f' := (2, [some (vI i), some (vI (-1)), some (vI ((rd (A 99) 0) - 1))], [vI (-1), vI i], LAY (shA A) (shF F), 0, 0)) hc104 2 rfl trivial ?_
              refine R_ic (t := 14) hc104 rfl rfl (fun (z : i < (-1)) => absurd z (by omega)) (fun (_ : ¬ (i < (-1))) => ?_)
              refine R_s (P := True) (f' := (7, [some (vI i), some (vI (-1)), some (vI ((rd (A 99) 0) - 1))], [vI ((rd (A 99) 0) - 1), vI i], LAY (shA A) (shF F), 0, 0)) hc104 2 rfl trivial ?_
              refine R_ic (t := 14) hc104 rfl rfl (fun (z : (rd (A 99) 0) - 1 < i) => absurd z (by omega)) (fun (_ : ¬ ((rd (A 99) 0) - 1 < i)) => ?_)
              refine R_s (P := True) (f' := (15, [some (vI i), some (vI (-1)), some (vI ((rd (A 99) 0) - 1))], [vI 1], LAY (shA A) (shF F), 0, 0)) hc104 2 rfl trivial ?_
              refine R_retz hc104 rfl rfl (Or.inr rfl) ?_
              refine R_s (f' := (21, [some (vR 88), some (vI 0), some (vI i), some (vI q), none, none], [vI 1], LAY (shA A) (shF F), 0, 0)) hc147 0 rfl trivial ?_
              refine R_if (t := 31) hc147 rfl rfl (fun (_ : ¬ 1 = 0) => ?_) (fun (z : ¬ (¬ 1 = 0)) => absurd (by decide) z)
              refine R_s (P := True) (f' := (33, [some (vR 88), some (vI 0), some (vI i), some (vI q), none, none], [vI (-1), vI i], LAY (shA A) (shF F), 0, 0)) hc147 2 rfl trivial ?_
              refine R_ic (t := 43) hc147 rfl rfl (fun (_ : ¬ i = (-1)) => ?_) (fun (z : ¬ (¬ i = (-1))) => absurd (show ¬ i = (-1) by omega) z)
              refine R_s (P := True) (f' := (46, [some (vR 88), some (vI 0), some (vI i), some (vI q), none, none], [vI 5, vI 0, vI q], LAY (shA A) (shF F), 0, 0)) hc147 3 rfl trivial ?_
              refine R_cs hc147 rfl rfl ?_ (fun r G h => h)
              refine R_s (P := True) (f' := (2, [some (vI q), some (vI 0), some (vI 5)], [vI 0, vI q], LAY (shA A) (shF F), 0, 0)) hc104 2 rfl trivial ?_
              refine R_ic (t := 14) hc104 rfl rfl (fun (z : q < 0) => absurd z (by omega)) (fun (_ : ¬ (q < 0)) => ?_)
              refine R_s (P := True) (f' := (7, [some (vI q), some (vI 0), some (vI 5)], [vI 5, vI q], LAY (shA A) (shF F), 0, 0)) hc104 2 rfl trivial ?_
              refine R_ic (t := 14) hc104 rfl rfl (fun (z : 5 < q) => absurd z (by omega)) (fun (_ : ¬ (5 < q)) => ?_)
              refine R_s (P := True) (f' := (15, [some (vI q), some (vI 0), some (vI 5)], [vI 1], LAY (shA A) (shF F), 0, 0)) hc104 2 rfl trivial ?_
              refine R_retz hc104 rfl rfl (Or.inr rfl) ?_
              refine R_s (f' := (49, [some (vR 88), some (vI 0), some (vI i), some (vI q), none, none], [vI 1], LAY (shA A) (shF F), 0, 0)) hc147 0 rfl trivial ?_
              refine R_if (t := 59) hc147 rfl rfl (fun (_ : ¬ 1 = 0) => ?_) (fun (z : ¬ (¬ 1 = 0)) => absurd (by decide) z)
              refine R_s (P := inI 0 ∧ inI (8 * i) ∧ inI (0 + (8 * i)) ∧ (0 ≤ 0 + (8 * i) ∧ 0 + (8 * i) < ((A 100).length : Int)) ∧ True) (f' := (81, [some (vR 88), some (vI 0), some (vI i), some (vI q), some (vI (0 + (8 * i))), some (vI (rd (A 100) (0 + (8 * i))))], [vI 1, vI q], LAY (shA A) (shF F), 0, 0)) hc147 15 rfl ⟨⟨by omega, by omega⟩, ⟨by omega, by omega⟩, ⟨by omega, by omega⟩, ⟨by omega, by omega⟩, trivial⟩ ?_
              refine R_ic (t := 90) hc147 rfl rfl (fun (z : ¬ q = 1) => absurd z (by omega)) (fun (_ : ¬ (¬ q = 1)) => ?_)
              refine R_s (P := True) (f' := (87, [some (vR 88), some (vI 0), some (vI i), some (vI q), some (vI (0 + (8 * i))), some (vI (rd (A 100) (0 + (8 * i))))], [vI 3, vI (rd (A 100) (0 + (8 * i)))], LAY (shA A) (shF F), 0, 0)) hc147 2 rfl trivial ?_
              refine R_ic (t := 134) hc147 rfl rfl (fun (z : rd (A 100) (0 + (8 * i)) = 3) => absurd z (by omega)) (fun (_ : ¬ (rd (A 100) (0 + (8 * i)) = 3)) => ?_)
              refine R_s (P := True) (f' := (92, [some (vR 88), some (vI 0), some (vI i), some (vI q), some (vI (0 + (8 * i))), some (vI (rd (A 100) (0 + (8 * i))))], [vI 2, vI q], LAY (shA A) (shF F), 0, 0)) hc147 2 rfl trivial ?_
              refine R_ic (t := 107) hc147 rfl rfl (fun (_ : ¬ q = 2) => ?_) (fun (z : ¬ (¬ q = 2)) => absurd (show ¬ q = 2 by omega) z)
              refine R_s (P := True) (f' := (109, [some (vR 88), some (vI 0), some (vI i), some (vI q), some (vI (0 + (8 * i))), some (vI (rd (A 100) (0 + (8 * i))))], [vI 3, vI q], LAY (shA A) (shF F), 0, 0)) hc147 2 rfl trivial ?_
              refine R_ic (t := 123) hc147 rfl rfl (fun (_ : ¬ q = 3) => ?_) (fun (z : ¬ (¬ q = 3)) => absurd (show ¬ q = 3 by omega) z)
              refine R_s (P := True) (f' := (125, [some (vR 88), some (vI 0), some (vI i), some (vI q), some (vI (0 + (8 * i))), some (vI (rd (A 100) (0 + (8 * i))))], [vI 4, vI q], LAY (shA A) (shF F), 0, 0)) hc147 2 rfl trivial ?_
              refine R_ic (t := 141) hc147 rfl rfl (fun (_ : ¬ q = 4) => ?_) (fun (z : ¬ (¬ q = 4)) => absurd (show ¬ q = 4 by omega) z)
              refine R_s (P := True) (f' := (143, [some (vR 88), some (vI 0), some (vI i), some (vI q), some (vI (0 + (8 * i))), some (vI (rd (A 100) (0 + (8 * i))))], [vI 5, vI q], LAY (shA A) (shF F), 0, 0)) hc147 2 rfl trivial ?_
              refine R_ic (t := 166) hc147 rfl rfl (fun (_ : ¬ q = 5) => ?_) (fun (z : ¬ (¬ q = 5)) => absurd (show ¬ q = 5 by omega) z)
              refine R_s (P := inI ((0 + (8 * i)) + q) ∧ (0 ≤ (0 + (8 * i)) + q ∧ (0 + (8 * i)) + q < ((A 100).length : Int)) ∧ True) (f' := (175, [some (vR 88), some (vI 0), some (vI i), some (vI q), some (vI (0 + (8 * i))), some (vI (rd (A 100) (0 + (8 * i))))], [vI (rd (A 100) ((0 + (8 * i)) + q))], LAY (shA A) (shF F), 0, 0)) hc147 6 rfl ⟨⟨by omega, by omega⟩, ⟨by omega, by omega⟩, trivial⟩ ?_
              refine R_reti hc147 rfl rfl ?_
              first
                | (exfalso; omega; done)
                | exact ⟨(by rw [show rd (A 100) ((0 + (8 * i)) + q) = rd (A 22) i by omega]), A, F, rfl, rfl, REL_c hR0⟩
                | (have e9 : rd (A 100) ((0 + (8 * i)) + q) = rd (A 22) i := (by rw [show q = 1 by omega]; have z := mI_0 hR0 hd (i := i) (by omega) (by omega); omega); exact ⟨(by rw [show rd (A 100) ((0 + (8 * i)) + q) = rd (A 22) i by omega]), A, F, rfl, rfl, REL_c hR0⟩)
            · refine R_s (P := True) (f' := (108, [some (vR 1), some (vI 0), some (vI i), some (vI q), some (vR 20), some (vI (rd (A 21) i))], [vI (-5), vR 1], LAY (shA A) (shF F), 0, 0)) hc73 2 rfl trivial ?_
              refine R_cv hc73 rfl rfl ?_ (fun r G h => h)
              refine R_s (P := True) (f' := (3, [some (vR 1), some (vI (-5))], [vI (-2), vI (-5)], LAY (shA A) (shF F), 0, 0)) hc93 2 rfl trivial ?_
              refine R_ic (t := 23) hc93 rfl rfl (fun (z : (-2) < (-5)) => absurd z (by decide)) (fun (_ : ¬ ((-2) < (-5))) => ?_)
              refine R_s (P := True) (f' := (9, [some (vR 1), some (vI (-5))], [vI (-8), vI (-5)], LAY (shA A) (shF F), 0, 0)) hc93 2 rfl trivial ?_
              refine R_ic (t := 23) hc93 rfl rfl (fun (z : (-5) < (-8)) => absurd z (by decide)) (fun (_ : ¬ ((-5) < (-8))) => ?_)
              refine R_s (P := inI 5 ∧ (0 ≤ 5 ∧ 5 < ((A 87).length : Int)) ∧ inI ((rd (A 87) 5) + 1) ∧ (0 ≤ 5 ∧ 5 < ((A 87).length : Int)) ∧ True) (f' := (24, [some (vR 1), some (vI (-5))], [vI (-5)], LAY (u (shA A) 87 (wr (A 87) 5 ((rd (A 87) 5) + 1))) (shF F), 0, 0)) hc93 10 rfl ⟨⟨by omega, by omega⟩, ⟨by omega, by omega⟩, ⟨by omega, by omega⟩, ⟨by omega, by omega⟩, trivial⟩ ?_
              refine R_reti hc93 rfl rfl ?_
              refine R_s (f' := (111, [some (vR 1), some (vI 0), some (vI i), some (vI q), some (vR 20), some (vI (rd (A 21) i))], [vI (-5)], LAY (u (shA A) 87 (wr (A 87) 5 ((rd (A 87) 5) + 1))) (shF F), 0, 0)) hc73 0 rfl trivial ?_
              refine R_s (P := True) (f' := (121, [some (vR 1), some (vI 0), some (vI i), some (vI q), some (vR 20), some (vI (rd (A 21) i))], [vI (-5)], LAY (u (shA A) 87 (wr (A 87) 5 ((rd (A 87) 5) + 1))) (shF F), 0, 0)) hc73 1 rfl trivial ?_
              refine R_reti hc73 rfl rfl ?_
              refine R_s (P := True) (f' := (2, [some (vR 88), some (vI 0), some (vI i), some (vI q), none, none], [vI 0, vR 88], LAY (u (shA A) 87 (wr (A 87) 5 ((rd (A 87) 5) + 1))) (shF F), 0, 0)) hc147 2 rfl trivial ?_
              refine R_cv hc147 rfl rfl ?_ (fun r G h => h)
              refine R_s (P := inI ((F 0) - 1) ∧ True) (f' := (8, [some (vR 88), some (vI 0)], [vI ((F 0) - 1), vI 0, vI 0], LAY (u (shA A) 87 (wr (A 87) 5 ((rd (A 87) 5) + 1))) (shF F), 0, 0)) hc108 6 rfl ⟨⟨by omega, by omega⟩, trivial⟩ ?_
              refine R_cs hc108 rfl rfl ?_ (fun r G h => h)
              refine R_s (P := True) (f' := (2, [some (vI 0), some (vI 0), some (vI ((F 0) - 1))], [vI 0, vI 0], LAY (u (shA A) 87 (wr (A 87) 5 ((rd (A 87) 5) + 1))) (shF F), 0, 0)) hc104 2 rfl trivial ?_
              refine R_ic (t := 14) hc104 rfl rfl (fun (z : 0 < 0) => absurd z (by decide)) (fun (_ : ¬ (0 < 0)) => ?_)
              refine R_s (P := True) (f' := (7, [some (vI 0), some (vI 0), some (vI ((F 0) - 1))], [vI ((F 0) - 1), vI 0], LAY (u (shA A) 87 (wr (A 87) 5 ((rd (A 87) 5) + 1))) (shF F), 0, 0)) hc104 2 rfl trivial ?_
              refine R_ic (t := 14) hc104 rfl rfl (fun (z : (F 0) - 1 < 0) => absurd z (by omega)) (fun (_ : ¬ ((F 0) - 1 < 0)) => ?_)
              refine R_s (P := True) (f' := (15, [some (vI 0), some (vI 0), some (vI ((F 0) - 1))], [vI 1], LAY (u (shA A) 87 (wr (A 87) 5 ((rd (A 87) 5) + 1))) (shF F), 0, 0)) hc104 2 rfl trivial ?_
              refine R_retz hc104 rfl rfl (Or.inr rfl) ?_
              refine R_s (f' := (11, [some (vR 88), some (vI 0)], [vI 1], LAY (u (shA A) 87 (wr (A 87) 5 ((rd (A 87) 5) + 1))) (shF F), 0, 0)) hc108 0 rfl trivial ?_
              refine R_retz hc108 rfl rfl (Or.inr rfl) ?_
              refine R_s (f' := (5, [some (vR 88), some (vI 0), some (vI i), some (vI q), none, none], [vI 1], LAY (u (shA A) 87 (wr (A 87) 5 ((rd (A 87) 5) + 1))) (shF F), 0, 0)) hc147 0 rfl trivial ?_
              refine R_if (t := 24) hc147 rfl rfl (fun (z : 1 = 0) => absurd z (by decide)) (fun (_ : ¬ (1 = 0)) => ?_)
              refine R_s (P := (0 ≤ 0 ∧ 0 < ((A 99).length : Int)) ∧ inI ((rd (A 99) 0) - 1) ∧ True) (f' := (18, [some (vR 88), some (vI 0), some (vI i), some (vI q), none, none], [vI ((rd (A 99) 0) - 1), vI (-1), vI i], LAY (u (shA A) 87 (wr (A 87) 5 ((rd (A 87) 5) + 1))) (shF F), 0, 0)) hc147 8 rfl ⟨⟨by omega, by omega⟩, ⟨by omega, by omega⟩, trivial⟩ ?_
              refine R_cs hc147 rfl rfl ?_ (fun r G h => h)
              refine R_s (P := True) (f' := (2, [some (vI i), some (vI (-1)), some (vI ((rd (A 99) 0) - 1))], [vI (-1), vI i], LAY (u (shA A) 87 (wr (A 87) 5 ((rd (A 87) 5) + 1))) (shF F), 0, 0)) hc104 2 rfl trivial ?_
              refine R_ic (t := 14) hc104 rfl rfl (fun (z : i < (-1)) => absurd z (by omega)) (fun (_ : ¬ (i < (-1))) => ?_)
              refine R_s (P := True) (f' := (7, [some (vI i), some (vI (-1)), some (vI ((rd (A 99) 0) - 1))], [vI ((rd (A 99) 0) - 1), vI i], LAY (u (shA A) 87 (wr (A 87) 5 ((rd (A 87) 5) + 1))) (shF F), 0, 0)) hc104 2 rfl trivial ?_
              refine R_ic (t := 14) hc104 rfl rfl (fun (z : (rd (A 99) 0) - 1 < i) => absurd z (by omega)) (fun (_ : ¬ ((rd (A 99) 0) - 1 < i)) => ?_)
              refine R_s (P := True) (f' := (15, [some (vI i), some (vI (-1)), some (vI ((rd (A 99) 0) - 1))], [vI 1], LAY (u (shA A) 87 (wr (A 87) 5 ((rd (A 87) 5) + 1))) (shF F), 0, 0)) hc104 2 rfl trivial ?_
              refine R_retz hc104 rfl rfl (Or.inr rfl) ?_
              refine R_s (f' := (21, [some (vR 88), some (vI 0), some (vI i), some (vI q), none, none], [vI 1], LAY (u (shA A) 87 (wr (A 87) 5 ((rd (A 87) 5) + 1))) (shF F), 0, 0)) hc147 0 rfl trivial ?_
              refine R_if (t := 31) hc147 rfl rfl (fun (_ : ¬ 1 = 0) => ?_) (fun (z : ¬ (¬ 1 = 0)) => absurd (by decide) z)
              refine R_s (P := True) (f' := (33, [some (vR 88), some (vI 0), some (vI i), some (vI q), none, none], [vI (-1), vI i], LAY (u (shA A) 87 (wr (A 87) 5 ((rd (A 87) 5) + 1))) (shF F), 0, 0)) hc147 2 rfl trivial ?_
              refine R_ic (t := 43) hc147 rfl rfl (fun (_ : ¬ i = (-1)) => ?_) (fun (z : ¬ (¬ i = (-1))) => absurd (show ¬ i = (-1) by omega) z)
              refine R_s (P := True) (f' := (46, [some (vR 88), some (vI 0), some (vI i), some (vI q), none, none], [vI 5, vI 0, vI q], LAY (u (shA A) 87 (wr (A 87) 5 ((rd (A 87) 5) + 1))) (shF F), 0, 0)) hc147 3 rfl trivial ?_
              refine R_cs hc147 rfl rfl ?_ (fun r G h => h)
              refine R_s (P := True) (f' := (2, [some (vI q), some (vI 0), some (vI 5)], [vI 0, vI q], LAY (u (shA A) 87 (wr (A 87) 5 ((rd (A 87) 5) + 1))) (shF F), 0, 0)) hc104 2 rfl trivial ?_
              refine R_ic (t := 14) hc104 rfl rfl (fun (z : q < 0) => absurd z (by omega)) (fun (_ : ¬ (q < 0)) => ?_)
              refine R_s (P := True) (f' := (7, [some (vI q), some (vI 0), some (vI 5)], [vI 5, vI q], LAY (u (shA A) 87 (wr (A 87) 5 ((rd (A 87) 5) + 1))) (shF F), 0, 0)) hc104 2 rfl trivial ?_
              refine R_ic (t := 14) hc104 rfl rfl (fun (z : 5 < q) => absurd z (by omega)) (fun (_ : ¬ (5 < q)) => ?_)
              refine R_s (P := True) (f' := (15, [some (vI q), some (vI 0), some (vI 5)], [vI 1], LAY (u (shA A) 87 (wr (A 87) 5 ((rd (A 87) 5) + 1))) (shF F), 0, 0)) hc104 2 rfl trivial ?_
              refine R_retz hc104 rfl rfl (Or.inr rfl) ?_
              refine R_s (f' := (49, [some (vR 88), some (vI 0), some (vI i), some (vI q), none, none], [vI 1], LAY (u (shA A) 87 (wr (A 87) 5 ((rd (A 87) 5) + 1))) (shF F), 0, 0)) hc147 0 rfl trivial ?_
              refine R_if (t := 59) hc147 rfl rfl (fun (_ : ¬ 1 = 0) => ?_) (fun (z : ¬ (¬ 1 = 0)) => absurd (by decide) z)
              refine R_s (P := inI 0 ∧ inI (8 * i) ∧ inI (0 + (8 * i)) ∧ (0 ≤ 0 + (8 * i) ∧ 0 + (8 * i) < ((A 100).length : Int)) ∧ True) (f' := (81, [some (vR 88), some (vI 0), some (vI i), some (vI q), some (vI (0 + (8 * i))), some (vI (rd (A 100) (0 + (8 * i))))], [vI 1, vI q], LAY (u (shA A) 87 (wr (A 87) 5 ((rd (A 87) 5) + 1))) (shF F), 0, 0)) hc147 15 rfl ⟨⟨by omega, by omega⟩, ⟨by omega, by omega⟩, ⟨by omega, by omega⟩, ⟨by omega, by omega⟩, trivial⟩ ?_
              refine R_ic (t := 90) hc147 rfl rfl (fun (z : ¬ q = 1) => absurd z (by omega)) (fun (_ : ¬ (¬ q = 1)) => ?_)
              refine R_s (P := True) (f' := (87, [some (vR 88), some (vI 0), some (vI i), some (vI q), some (vI (0 + (8 * i))), some (vI (rd (A 100) (0 + (8 * i))))], [vI 3, vI (rd (A 100) (0 + (8 * i)))], LAY (u (shA A) 87 (wr (A 87) 5 ((rd (A 87) 5) + 1))) (shF F), 0, 0)) hc147 2 rfl trivial ?_
              refine R_ic (t := 134) hc147 rfl rfl (fun (_ : rd (A 100) (0 + (8 * i)) = 3) => ?_) (fun (z : ¬ (rd (A 100) (0 + (8 * i)) = 3)) => absurd (show rd (A 100) (0 + (8 * i)) = 3 by omega) z)
              refine R_s (P := True) (f' := (137, [some (vR 88), some (vI 0), some (vI i), some (vI q), some (vI (0 + (8 * i))), some (vI (rd (A 100) (0 + (8 * i))))], [vI (-5), vR 88], LAY (u (shA A) 87 (wr (A 87) 5 ((rd (A 87) 5) + 1))) (shF F), 0, 0)) hc147 2 rfl trivial ?_
              refine R_cv hc147 rfl rfl ?_ (fun r G h => h)
              refine R_s (P := inI 5 ∧ (0 ≤ 5 ∧ 5 < ((A 87).length : Int)) ∧ inI ((rd (A 87) 5) + 1) ∧ (0 ≤ 5 ∧ 5 < ((A 87).length : Int)) ∧ True) (f' := (12, [some (vR 88), some (vI (-5))], [vI (-5)], LAY (u (u (shA A) 87 (wr (A 87) 5 ((rd (A 87) 5) + 1))) 89 (wr (A 87) 5 ((rd (A 87) 5) + 1))) (shF F), 0, 0)) hc105 10 rfl ⟨⟨by omega, by omega⟩, ⟨by omega, by omega⟩, ⟨by omega, by omega⟩, ⟨by omega, by omega⟩, trivial⟩ ?_
              refine R_reti hc105 rfl rfl ?_
              refine R_s (f' := (140, [some (vR 88), some (vI 0), some (vI i), some (vI q), some (vI (0 + (8 * i))), some (vI (rd (A 100) (0 + (8 * i))))], [vI (-5)], LAY (u (u (shA A) 87 (wr (A 87) 5 ((rd (A 87) 5) + 1))) 89 (wr (A 87) 5 ((rd (A 87) 5) + 1))) (shF F), 0, 0)) hc147 0 rfl trivial ?_
              refine R_reti hc147 rfl rfl ?_
              first
                | (exfalso; omega; done)
                | exact ⟨rfl, (u A 87 (wr (A 87) 5 ((rd (A 87) 5) + 1))), F, rfl, rfl, REL_ref hR0 (by decide) (by decide)⟩
          | 2, hio, c8 =>
            cases hio
            refine R_s (f' := (122, [some (vR 1), some (vI 0), some (vI i), some (vI q), some (vR 20), some (vI (rd (A 21) i))], [], LAY (shA A) (shF F), 0, 0)) hc73 0 rfl trivial ?_
            refine R_s (P := True) (f' := (125, [some (vR 1), some (vI 0), some (vI i), some (vI q), some (vR 20), some (vI (rd (A 21) i))], [vI 1, vI (rd (A 21) i)], LAY (shA A) (shF F), 0, 0)) hc73 2 rfl trivial ?_
            refine R_ic (t := 134) hc73 rfl rfl (fun (c12 : rd (A 21) i = 1) => ?_) (fun (c12 : ¬ (rd (A 21) i = 1)) => ?_)
            · refine R_s (P := (0 ≤ i ∧ i < ((A 23).length : Int)) ∧ True) (f' := (150, [some (vR 1), some (vI 0), some (vI i), some (vI q), some (vR 20), some (vI (rd (A 21) i))], [vI (rd (A 23) i)], LAY (shA A) (shF F), 0, 0)) hc73 5 rfl ⟨⟨by omega, by omega⟩, trivial⟩ ?_
              refine R_reti hc73 rfl rfl ?_
              refine R_s (P := True) (f' := (2, [some (vR 88), some (vI 0), some (vI i), some (vI q), none, none], [vI 0, vR 88], LAY (shA A) (shF F), 0, 0)) hc147 2 rfl trivial ?_
              refine R_cv hc147 rfl rfl ?_ (fun r G h => h)
              refine R_s (P := inI ((F 0) - 1) ∧ True) (f' := (8, [some (vR 88), some (vI 0)], [vI ((F 0) - 1), vI 0, vI 0], LAY (shA A) (shF F), 0, 0)) hc108 6 rfl ⟨⟨by omega, by omega⟩, trivial⟩ ?_
              refine R_cs hc108 rfl rfl ?_ (fun r G h => h)
              refine R_s (P := True) (f' := (2, [some (vI 0), some (vI 0), some (vI ((F 0) - 1))], [vI 0, vI 0], LAY (shA A) (shF F), 0, 0)) hc104 2 rfl trivial ?_
              refine R_ic (t := 14) hc104 rfl rfl (fun (z : 0 < 0) => absurd z (by decide)) (fun (_ : ¬ (0 < 0)) => ?_)
              refine R_s (P := True) (f' := (7, [some (vI 0), some (vI 0), some (vI ((F 0) - 1))], [vI ((F 0) - 1), vI 0], LAY (shA A) (shF F), 0, 0)) hc104 2 rfl trivial ?_
              refine R_ic (t := 14) hc104 rfl rfl (fun (z : (F 0) - 1 < 0) => absurd z (by omega)) (fun (_ : ¬ ((F 0) - 1 < 0)) => ?_)
              refine R_s (P := True) (f' := (15, [some (vI 0), some (vI 0), some (vI ((F 0) - 1))], [vI 1], LAY (shA A) (shF F), 0, 0)) hc104 2 rfl trivial ?_
              refine R_retz hc104 rfl rfl (Or.inr rfl) ?_
              refine R_s (f' := (11, [some (vR 88), some (vI 0)], [vI 1], LAY (shA A) (shF F), 0, 0)) hc108 0 rfl trivial ?_
              refine R_retz hc108 rfl rfl (Or.inr rfl) ?_
              refine R_s (f' := (5, [some (vR 88), some (vI 0), some (vI i), some (vI q), none, none], [vI 1], LAY (shA A) (shF F), 0, 0)) hc147 0 rfl trivial ?_
              refine R_if (t := 24) hc147 rfl rfl (fun (z : 1 = 0) => absurd z (by decide)) (fun (_ : ¬ (1 = 0)) => ?_)
              refine R_s (P := (0 ≤ 0 ∧ 0 < ((A 99).length : Int)) ∧ inI ((rd (A 99) 0) - 1) ∧ True) (f' := (18, [some (vR 88), some (vI 0), some (vI i), some (vI q), none, none], [vI ((rd (A 99) 0) - 1), vI (-1), vI i], LAY (shA A) (shF F), 0, 0)) hc147 8 rfl ⟨⟨by omega, by omega⟩, ⟨by omega, by omega⟩, trivial⟩ ?_
              refine R_cs hc147 rfl rfl ?_ (fun r G h => h)
              refine R_s (P := True) (f' := (2, [some (vI i), some (vI (-1)), some (vI ((rd (A 99) 0) - 1))], [vI (-1), vI i], LAY (shA A) (shF F), 0, 0)) hc104 2 rfl trivial ?_
              refine R_ic (t := 14) hc104 rfl rfl (fun (z : i < (-1)) => absurd z (by omega)) (fun (_ : ¬ (i < (-1))) => ?_)
              refine R_s (P := True) (f' := (7, [some (vI i), some (vI (-1)), some (vI ((rd (A 99) 0) - 1))], [vI ((rd (A 99) 0) - 1), vI i], LAY (shA A) (shF F), 0, 0)) hc104 2 rfl trivial ?_
              refine R_ic (t := 14) hc104 rfl rfl (fun (z : (rd (A 99) 0) - 1 < i) => absurd z (by omega)) (fun (_ : ¬ ((rd (A 99) 0) - 1 < i)) => ?_)
              refine R_s (P := True) (f' := (15, [some (vI i), some (vI (-1)), some (vI ((rd (A 99) 0) - 1))], [vI 1], LAY (shA A) (shF F), 0, 0)) hc104 2 rfl trivial ?_
              refine R_retz hc104 rfl rfl (Or.inr rfl) ?_
              refine R_s (f' := (21, [some (vR 88), some (vI 0), some (vI i), some (vI q), none, none], [vI 1], LAY (shA A) (shF F), 0, 0)) hc147 0 rfl trivial ?_
              refine R_if (t := 31) hc147 rfl rfl (fun (_ : ¬ 1 = 0) => ?_) (fun (z : ¬ (¬ 1 = 0)) => absurd (by decide) z)
              refine R_s (P := True) (f' := (33, [some (vR 88), some (vI 0), some (vI i), some (vI q), none, none], [vI (-1), vI i], LAY (shA A) (shF F), 0, 0)) hc147 2 rfl trivial ?_
              refine R_ic (t := 43) hc147 rfl rfl (fun (_ : ¬ i = (-1)) => ?_) (fun (z : ¬ (¬ i = (-1))) => absurd (show ¬ i = (-1) by omega) z)
              refine R_s (P := True) (f' := (46, [some (vR 88), some (vI 0), some (vI i), some (vI q), none, none], [vI 5, vI 0, vI q], LAY (shA A) (shF F), 0, 0)) hc147 3 rfl trivial ?_
              refine R_cs hc147 rfl rfl ?_ (fun r G h => h)
              refine R_s (P := True) (f' := (2, [some (vI q), some (vI 0), some (vI 5)], [vI 0, vI q], LAY (shA A) (shF F), 0, 0)) hc104 2 rfl trivial ?_
              refine R_ic (t := 14) hc104 rfl rfl (fun (z : q < 0) => absurd z (by omega)) (fun (_ : ¬ (q < 0)) => ?_)
              refine R_s (P := True) (f' := (7, [some (vI q), some (vI 0), some (vI 5)], [vI 5, vI q], LAY (shA A) (shF F), 0, 0)) hc104 2 rfl trivial ?_
              refine R_ic (t := 14) hc104 rfl rfl (fun (z : 5 < q) => absurd z (by omega)) (fun (_ : ¬ (5 < q)) => ?_)
              refine R_s (P := True) (f' := (15, [some (vI q), some (vI 0), some (vI 5)], [vI 1], LAY (shA A) (shF F), 0, 0)) hc104 2 rfl trivial ?_
              refine R_retz hc104 rfl rfl (Or.inr rfl) ?_
              refine R_s (f' := (49, [some (vR 88), some (vI 0), some (vI i), some (vI q), none, none], [vI 1], LAY (shA A) (shF F), 0, 0)) hc147 0 rfl trivial ?_
              refine R_if (t := 59) hc147 rfl rfl (fun (_ : ¬ 1 = 0) => ?_) (fun (z : ¬ (¬ 1 = 0)) => absurd (by decide) z)
              refine R_s (P := inI 0 ∧ inI (8 * i) ∧ inI (0 + (8 * i)) ∧ (0 ≤ 0 + (8 * i) ∧ 0 + (8 * i) < ((A 100).length : Int)) ∧ True) (f' := (81, [some (vR 88), some (vI 0), some (vI i), some (vI q), some (vI (0 + (8 * i))), some (vI (rd (A 100) (0 + (8 * i))))], [vI 1, vI q], LAY (shA A) (shF F), 0, 0)) hc147 15 rfl ⟨⟨by omega, by omega⟩, ⟨by omega, by omega⟩, ⟨by omega, by omega⟩, ⟨by omega, by omega⟩, trivial⟩ ?_
              refine R_ic (t := 90) hc147 rfl rfl (fun (_ : ¬ q = 1) => ?_) (fun (z : ¬ (¬ q = 1)) => absurd (show ¬ q = 1 by omega) z)
              refine R_s (P := True) (f' := (92, [some (vR 88), some (vI 0), some (vI i), some (vI q), some (vI (0 + (8 * i))), some (vI (rd (A 100) (0 + (8 * i))))], [vI 2, vI q], LAY (shA A) (shF F), 0, 0)) hc147 2 rfl trivial ?_
              refine R_ic (t := 107) hc147 rfl rfl (fun (z : ¬ q = 2) => absurd z (by omega)) (fun (_ : ¬ (¬ q = 2)) => ?_)
              refine R_s (P := True) (f' := (98, [some (vR 88), some (vI 0), some (vI i), some (vI q), some (vI (0 + (8 * i))), some (vI (rd (A 100) (0 + (8 * i))))], [vI 1, vI (rd (A 100) (0 + (8 * i)))], LAY (shA A) (shF F), 0, 0)) hc147 2 rfl trivial ?_
              refine R_ic (t := 107) hc147 rfl rfl (fun (_ : rd (A 100) (0 + (8 * i)) = 1) => ?_) (fun (z : ¬ (rd (A 100) (0 + (8 * i)) = 1)) => absurd (show rd (A 100) (0 + (8 * i)) = 1 by omega) z)
              refine R_s (P := True) (f' := (109, [some (vR 88), some (vI 0), some (vI i), some (vI q), some (vI (0 + (8 * i))), some (vI (rd (A 100) (0 + (8 * i))))], [vI 3, vI q], LAY (shA A) (shF F), 0, 0)) hc147 2 rfl trivial ?_
              refine R_ic (t := 123) hc147 rfl rfl (fun (_ : ¬ q = 3) => ?_) (fun (z : ¬ (¬ q = 3)) => absurd (show ¬ q = 3 by omega) z)
              refine R_s (P := True) (f' := (125, [some (vR 88), some (vI 0), some (vI i), some (vI q), some (vI (0 + (8 * i))), some (vI (rd (A 100) (0 + (8 * i))))], [vI 4, vI q], LAY (shA A) (shF F), 0, 0)) hc147 2 rfl trivial ?_
              refine R_ic (t := 141) hc147 rfl rfl (fun (_ : ¬ q = 4) => ?_) (fun (z : ¬ (¬ q = 4)) => absurd (show ¬ q = 4 by omega) z)
              refine R_s (P := True) (f' := (143, [some (vR 88), some (vI 0), some (vI i), some (vI q), some (vI (0 + (8 * i))), some (vI (rd (A 100) (0 + (8 * i))))], [vI 5, vI q], LAY (shA A) (shF F), 0, 0)) hc147 2 rfl trivial ?_
              refine R_ic (t := 166) hc147 rfl rfl (fun (_ : ¬ q = 5) => ?_) (fun (z : ¬ (¬ q = 5)) => absurd (show ¬ q = 5 by omega) z)
              refine R_s (P := inI ((0 + (8 * i)) + q) ∧ (0 ≤ (0 + (8 * i)) + q ∧ (0 + (8 * i)) + q < ((A 100).length : Int)) ∧ True) (f' := (175, [some (vR 88), some (vI 0), some (vI i), some (vI q), some (vI (0 + (8 * i))), some (vI (rd (A 100) (0 + (8 * i))))], [vI (rd (A 100) ((0 + (8 * i)) + q))], LAY (shA A) (shF F), 0, 0)) hc147 6 rfl ⟨⟨by omega, by omega⟩, ⟨by omega, by omega⟩, trivial⟩ ?_
              refine R_reti hc147 rfl rfl ?_
              first
                | (exfalso; omega; done)
                | exact ⟨(by rw [show rd (A 100) ((0 + (8 * i)) + q) = rd (A 23) i by omega]), A, F, rfl, rfl, REL_c hR0⟩
                | (have e9 : rd (A 100) ((0 + (8 * i)) + q) = rd (A 23) i := (by rw [show q = 2 by omega]; have z := mI_0 hR0 hd (i := i) (by omega) (by omega); omega); exact ⟨(by rw [show rd (A 100) ((0 + (8 * i)) + q) = rd (A 23) i by omega]), A, F, rfl, rfl, REL_c hR0⟩)
            · refine R_s (P := True) (f' := (131, [some (vR 1), some (vI 0), some (vI i), some (vI q), some (vR 20), some (vI (rd (A 21) i))], [vI 2, vI (rd (A 21) i)], LAY (shA A) (shF F), 0, 0)) hc73 2 rfl trivial ?_
              refine R_ic (t := 144) hc73 rfl rfl (fun (c13 : ¬ rd (A 21) i = 2) => ?_) (fun (c13 : ¬ (¬ rd (A 21) i = 2)) => ?_)
              · refine R_s (P := True) (f' := (147, [some (vR 1), some (vI 0), some (vI i), some (vI q), some (vR 20), some (vI (rd (A 21) i))], [vI (-5), vR 1], LAY (shA A) (shF F), 0, 0)) hc73 2 rfl trivial ?_
                refine R_cv hc73 rfl rfl ?_ (fun r G h => h)
                refine R_s (P := True) (f' := (3, [some (vR 1), some (vI (-5))], [vI (-2), vI (-5)], LAY (shA A) (shF F), 0, 0)) hc93 2 rfl trivial ?_
                refine R_ic (t := 23) hc93 rfl rfl (fun (z : (-2) < (-5)) => absurd z (by decide)) (fun (_ : ¬ ((-2) < (-5))) => ?_)
                refine R_s (P := True) (f' := (9, [some (vR 1), some (vI (-5))], [vI (-8), vI (-5)], LAY (shA A) (shF F), 0, 0)) hc93 2 rfl trivial ?_
                refine R_ic (t := 23) hc93 rfl rfl (fun (z : (-5) < (-8)) => absurd z (by decide)) (fun (_ : ¬ ((-5) < (-8))) => ?_)
                refine R_s (P := inI 5 ∧ (0 ≤ 5 ∧ 5 < ((A 87).length : Int)) ∧ inI ((rd (A 87) 5) + 1) ∧ (0 ≤ 5 ∧ 5 < ((A 87).length : Int)) ∧ True) (f' := (24, [some (vR 1), some (vI (-5))], [vI (-5)], LAY (u (shA A) 87 (wr (A 87) 5 ((rd (A 87) 5) + 1))) (shF F), 0, 0)) hc93 10 rfl ⟨⟨by omega, by omega⟩, ⟨by omega, by omega⟩, ⟨by omega, by omega⟩, ⟨by omega, by omega⟩, trivial⟩ ?_
                refine R_reti hc93 rfl rfl ?_
                refine R_s (f' := (150, [some (vR 1), some (vI 0), some (vI i), some (vI q), some (vR 20), some (vI (rd (A 21) i))], [vI (-5)], LAY (u (shA A) 87 (wr (A 87) 5 ((rd (A 87) 5) + 1))) (shF F), 0, 0)) hc73 0 rfl trivial ?_
                refine R_reti hc73 rfl rfl ?_
                refine R_s (P := True) (f' := (2, [some (vR 88), some (vI 0), some (vI i), some (vI q), none, none], [vI 0, vR 88], LAY (u (shA A) 87 (wr (A 87) 5 ((rd (A 87) 5) + 1))) (shF F), 0, 0)) hc147 2 rfl trivial ?_
                refine R_cv hc147 rfl rfl ?_ (fun r G h => h)
                refine R_s (P := inI ((F 0) - 1) ∧ True) (f' := (8, [some (vR 88), some (vI 0)], [vI ((F 0) - 1), vI 0, vI 0], LAY (u (shA A) 87 (wr (A 87) 5 ((rd (A 87) 5) + 1))) (shF F), 0, 0)) hc108 6 rfl ⟨⟨by omega, by omega⟩, trivial⟩ ?_
                refine R_cs hc108 rfl rfl ?_ (fun r G h => h)
                refine R_s (P := True) (f' := (2, [some (vI 0), some (vI 0), some (vI ((F 0) - 1))], [vI 0, vI 0], LAY (u (shA A) 87 (wr (A 87) 5 ((rd (A 87) 5) + 1))) (shF F), 0, 0)) hc104 2 rfl trivial ?_
                refine R_ic (t := 14) hc104 rfl rfl (fun (z : 0 < 0) => absurd z (by decide)) (fun (_ : ¬ (0 < 0)) => ?_)
                refine R_s (P := True) (f' := (7, [some (vI 0), some (vI 0), some (vI ((F 0) - 1))], [vI ((F 0) - 1), vI 0], LAY (u (shA A) 87 (wr (A 87) 5 ((rd (A 87) 5) + 1))) (shF F), 0, 0)) hc104 2 rfl trivial ?_
                refine R_ic (t := 14) hc104 rfl rfl (fun (z : (F 0) - 1 < 0) => absurd z (by omega)) (fun (_ : ¬ ((F 0) - 1 < 0)) => ?_)
                refine R_s (P := True) (f' := (15, [some (vI 0), some (vI 0), some (vI ((F 0) - 1))], [vI 1], LAY (u (shA A) 87 (wr (A 87) 5 ((rd (A 87) 5) + 1))) (shF F), 0, 0)) hc104 2 rfl trivial ?_
                refine R_retz hc104 rfl rfl (Or.inr rfl) ?_
                refine R_s (f' := (11, [some (vR 88), some (vI 0)], [vI 1], LAY (u (shA A) 87 (wr (A 87) 5 ((rd (A 87) 5) + 1))) (shF F), 0, 0)) hc108 0 rfl trivial ?_
                refine R_retz hc108 rfl rfl (Or.inr rfl) ?_
                refine R_s (f' := (5, [some (vR 88), some (vI 0), some (vI i), some (vI q), none, none], [vI 1], LAY (u (shA A) 87 (wr (A 87) 5 ((rd (A 87) 5) + 1))) (shF F), 0, 0)) hc147 0 rfl trivial ?_
                refine R_if (t := 24) hc147 rfl rfl (fun (z : 1 = 0) => absurd z (by decide)) (fun (_ : ¬ (1 = 0)) => ?_)
                refine R_s (P := (0 ≤ 0 ∧ 0 < ((A 99).length : Int)) ∧ inI ((rd (A 99) 0) - 1) ∧ True) (f' := (18, [some (vR 88), some (vI 0), some (vI i), some (vI q), none, none], [vI ((rd (A 99) 0) - 1), vI (-1), vI i], LAY (u (shA A) 87 (wr (A 87) 5 ((rd (A 87) 5) + 1))) (shF F), 0, 0)) hc147 8 rfl ⟨⟨by omega, by omega⟩, ⟨by omega, by omega⟩, trivial⟩ ?_
                refine R_cs hc147 rfl rfl ?_ (fun r G h => h)
                refine R_s (P := True) (f' := (2, [some (vI i), some (vI (-1)), some (vI ((rd (A 99) 0) - 1))], [vI (-1), vI i], LAY (u (shA A) 87 (wr (A 87) 5 ((rd (A 87) 5) + 1))) (shF F), 0, 0)) hc104 2 rfl trivial ?_
                refine R_ic (t := 14) hc104 rfl rfl (fun (z : i < (-1)) => absurd z (by omega)) (fun (_ : ¬ (i < (-1))) => ?_)
                refine R_s (P := True) (f' := (7, [some (vI i), some (vI (-1)), some (vI ((rd (A 99) 0) - 1))], [vI ((rd (A 99) 0) - 1), vI i], LAY (u (shA A) 87 (wr (A 87) 5 ((rd (A 87) 5) + 1))) (shF F), 0, 0)) hc104 2 rfl trivial ?_
                refine R_ic (t := 14) hc104 rfl rfl (fun (z : (rd (A 99) 0) - 1 < i) => absurd z (by omega)) (fun (_ : ¬ ((rd (A 99) 0) - 1 < i)) => ?_)
                refine R_s (P := True) (f' := (15, [some (vI i), some (vI (-1)), some (vI ((rd (A 99) 0) - 1))], [vI 1], LAY (u (shA A) 87 (wr (A 87) 5 ((rd (A 87) 5) + 1))) (shF F), 0, 0)) hc104 2 rfl trivial ?_
                refine R_retz hc104 rfl rfl (Or.inr rfl) ?_
                refine R_s (f' := (21, [some (vR 88), some (vI 0), some (vI i), some (vI q), none, none], [vI 1], LAY (u (shA A) 87 (wr (A 87) 5 ((rd (A 87) 5) + 1))) (shF F), 0, 0)) hc147 0 rfl trivial ?_
                refine R_if (t := 31) hc147 rfl rfl (fun (_ : ¬ 1 = 0) => ?_) (fun (z : ¬ (¬ 1 = 0)) => absurd (by decide) z)
                refine R_s (P := True) (f' := (33, [some (vR 88), some (vI 0), some (vI i), some (vI q), none, none], [vI (-1), vI i], LAY (u (shA A) 87 (wr (A 87) 5 ((rd (A 87) 5) + 1))) (shF F), 0, 0)) hc147 2 rfl trivial ?_
                refine R_ic (t := 43) hc147 rfl rfl (fun (_ : ¬ i = (-1)) => ?_) (fun (z : ¬ (¬ i = (-1))) => absurd (show ¬ i = (-1) by omega) z)
                refine R_s (P := True) (f' := (46, [some (vR 88), some (vI 0), some (vI i), some (vI q), none, none], [vI 5, vI 0, vI q], LAY (u (shA A) 87 (wr (A 87) 5 ((rd (A 87) 5) + 1))) (shF F), 0, 0)) hc147 3 rfl trivial ?_
                refine R_cs hc147 rfl rfl ?_ (fun r G h => h)
                refine R_s (P := True) (f' := (2, [some (vI q), some (vI 0), some (vI 5)], [vI 0, vI q], LAY (u (shA A) 87 (wr (A 87) 5 ((rd (A 87) 5) + 1))) (shF F), 0, 0)) hc104 2 rfl trivial ?_
                refine R_ic (t := 14) hc104 rfl rfl (fun (z : q < 0) => absurd z (by omega)) (fun (_ : ¬ (q < 0)) => ?_)
                refine R_s (P := True) (f' := (7, [some (vI q), some (vI 0), some (vI 5)], [vI 5, vI q], LAY (u (shA A) 87 (wr (A 87) 5 ((rd (A 87) 5) + 1))) (shF F), 0, 0)) hc104 2 rfl trivial ?_
                refine R_ic (t := 14) hc104 rfl rfl (fun (z : 5 < q) => absurd z (by omega)) (fun (_ : ¬ (5 < q)) => ?_)
                refine R_s (P := True) (f' := (15, [some (vI q), some (vI 0), some (vI 5)], [vI 1], LAY (u (shA A) 87 (wr (A 87) 5 ((rd (A 87) 5) + 1))) (shF F), 0, 0)) hc104 2 rfl trivial ?_
                refine R_retz hc104 rfl rfl (Or.inr rfl) ?_
                refine R_s (f' := (49, [some (vR 88), some (vI 0), some (vI i), some (vI q), none, none], [vI 1], LAY (u (shA A) 87 (wr (A 87) 5 ((rd (A 87) 5) + 1))) (shF F), 0, 0)) hc147 0 rfl trivial ?_
                refine R_if (t := 59) hc147 rfl rfl (fun (_ : ¬ 1 = 0) => ?_) (fun (z : ¬ (¬ 1 = 0)) => absurd (by decide) z)
                refine R_s (P := inI 0 ∧ inI (8 * i) ∧ inI (0 + (8 * i)) ∧ (0 ≤ 0 + (8 * i) ∧ 0 + (8 * i) < ((A 100).length : Int)) ∧ True) (f' := (81, [some (vR 88), some (vI 0), some (vI i), some (vI q), some (vI (0 + (8 * i))), some (vI (rd (A 100) (0 + (8 * i))))], [vI 1, vI q], LAY (u (shA A) 87 (wr (A 87) 5 ((rd (A 87) 5) + 1))) (shF F), 0, 0)) hc147 15 rfl ⟨⟨by omega, by omega⟩, ⟨by omega, by omega⟩, ⟨by omega, by omega⟩, ⟨by omega, by omega⟩, trivial⟩ ?_
                refine R_ic (t := 90) hc147 rfl rfl (fun (_ : ¬ q = 1) => ?_) (fun (z : ¬ (¬ q = 1)) => absurd (show ¬ q = 1 by omega) z)
                refine R_s (P := True) (f' := (92, [some (vR 88), some (vI 0), some (vI i), some (vI q), some (vI (0 + (8 * i))), some (vI (rd (A 100) (0 + (8 * i))))], [vI 2, vI q], LAY (u (shA A) 87 (wr (A 87) 5 ((rd (A 87) 5) + 1))) (shF F), 0, 0)) hc147 2 rfl trivial ?_
                refine R_ic (t := 107) hc147 rfl rfl (fun (z : ¬ q = 2) => absurd z (by omega)) (fun (_ : ¬ (¬ q = 2)) => ?_)
                refine R_s (P := True) (f' := (98, [some (vR 88), some (vI 0), some (vI i), some (vI q), some (vI (0 + (8 * i))), some (vI (rd (A 100) (0 + (8 * i))))], [vI 1, vI (rd (A 100) (0 + (8 * i)))], LAY (u (shA A) 87 (wr (A 87) 5 ((rd (A 87) 5) + 1))) (shF F), 0, 0)) hc147 2 rfl trivial ?_
                refine R_ic (t := 107) hc147 rfl rfl (fun (z : rd (A 100) (0 + (8 * i)) = 1) => absurd z (by omega)) (fun (_ : ¬ (rd (A 100) (0 + (8 * i)) = 1)) => ?_)
                refine R_s (P := True) (f' := (104, [some (vR 88), some (vI 0), some (vI i), some (vI q), some (vI (0 + (8 * i))), some (vI (rd (A 100) (0 + (8 * i))))], [vI 2, vI (rd (A 100) (0 + (8 * i)))], LAY (u (shA A) 87 (wr (A 87) 5 ((rd (A 87) 5) + 1))) (shF F), 0, 0)) hc147 2 rfl trivial ?_
                refine R_ic (t := 134) hc147 rfl rfl (fun (_ : ¬ rd (A 100) (0 + (8 * i)) = 2) => ?_) (fun (z : ¬ (¬ rd (A 100) (0 + (8 * i)) = 2)) => absurd (show ¬ rd (A 100) (0 + (8 * i)) = 2 by omega) z)
                refine R_s (P := True) (f' := (137, [some (vR 88), some (vI 0), some (vI i), some (vI q), some (vI (0 + (8 * i))), some (vI (rd (A 100) (0 + (8 * i))))], [vI (-5), vR 88], LAY (u (shA A) 87 (wr (A 87) 5 ((rd (A 87) 5) + 1))) (shF F), 0, 0)) hc147 2 rfl trivial ?_
                refine R_cv hc147 rfl rfl ?_ (fun r G h => h)
                refine R_s (P := inI 5 ∧ (0 ≤ 5 ∧ 5 < ((A 87).length : Int)) ∧ inI ((rd (A 87) 5) + 1) ∧ (0 ≤ 5 ∧ 5 < ((A 87).length : Int)) ∧ True) (f' := (12, [some (vR 88), some (vI (-5))], [vI (-5)], LAY (u (u (shA A) 87 (wr (A 87) 5 ((rd (A 87) 5) + 1))) 89 (wr (A 87) 5 ((rd (A 87) 5) + 1))) (shF F), 0, 0)) hc105 10 rfl ⟨⟨by omega, by omega⟩, ⟨by omega, by omega⟩, ⟨by omega, by omega⟩, ⟨by omega, by omega⟩, trivial⟩ ?_
                refine R_reti hc105 rfl rfl ?_
                refine R_s (f' := (140, [some (vR 88), some (vI 0), some (vI i), some (vI q), some (vI (0 + (8 * i))), some (vI (rd (A 100) (0 + (8 * i))))], [vI (-5)], LAY (u (u (shA A) 87 (wr (A 87) 5 ((rd (A 87) 5) + 1))) 89 (wr (A 87) 5 ((rd (A 87) 5) + 1))) (shF F), 0, 0)) hc147 0 rfl trivial ?_
                refine R_reti hc147 rfl rfl ?_
                first
                  | (exfalso; omega; done)
                  | exact ⟨rfl, (u A 87 (wr (A 87) 5 ((rd (A 87) 5) + 1))), F, rfl, rfl, REL_ref hR0 (by decide) (by decide)⟩
              · refine R_s (P := (0 ≤ i ∧ i < ((A 23).length : Int)) ∧ True) (f' := (150, [some (vR 1), some (vI 0), some (vI i), some (vI q), some (vR 20), some (vI (rd (A 21) i))], [vI (rd (A 23) i)], LAY (shA A) (shF F), 0, 0)) hc73 5 rfl ⟨⟨by omega, by omega⟩, trivial⟩ ?_
                refine R_reti hc73 rfl rfl ?_
                refine R_s (P := True) (f' := (2, [some (vR 88), some (vI 0), some (vI i), some (vI q), none, none], [vI 0, vR 88], LAY (shA A) (shF F), 0, 0)) hc147 2 rfl trivial ?_
                refine R_cv hc147 rfl rfl ?_ (fun r G h => h)
                refine R_s (P := inI ((F 0) - 1) ∧ True) (f' := (8, [some (vR 88), some (vI 0)], [vI ((F 0) - 1), vI 0, vI 0], LAY (shA A) (shF F), 0, 0)) hc108 6 rfl ⟨⟨by omega, by omega⟩, trivial⟩ ?_
                refine R_cs hc108 rfl rfl ?_ (fun r G h => h)
                refine R_s (P := True) (f' := (2, [some (vI 0), some (vI 0), some (vI ((F 0) - 1))], [vI 0, vI 0], LAY (shA A) (shF F), 0, 0)) hc104 2 rfl trivial ?_
                refine R_ic (t := 14) hc104 rfl rfl (fun (z : 0 < 0) => absurd z (by decide)) (fun (_ : ¬ (0 < 0)) => ?_)
                refine R_s (P := True) (f' := (7, [some (vI 0), some (vI 0), some (vI ((F 0) - 1))], [vI ((F 0) - 1), vI 0], LAY (shA A) (shF F), 0, 0)) hc104 2 rfl trivial ?_
                refine R_ic (t := 14) hc104 rfl rfl (fun (z : (F 0) - 1 < 0) => absurd z (by omega)) (fun (_ : ¬ ((F 0) - 1 < 0)) => ?_)
                refine R_s (P := True) (f' := (15, [some (vI 0), some (vI 0), some (vI ((F 0) - 1))], [vI 1], LAY (shA A) (shF F), 0, 0)) hc104 2 rfl trivial ?_
                refine R_retz hc104 rfl rfl (Or.inr rfl) ?_
                refine R_s (f' := (11, [some (vR 88), some (vI 0)], [vI 1], LAY (shA A) (shF F), 0, 0)) hc108 0 rfl trivial ?_
                refine R_retz hc108 rfl rfl (Or.inr rfl) ?_
                refine R_s (f' := (5, [some (vR 88), some (vI 0), some (vI i), some (vI q), none, none], [vI 1], LAY (shA A) (shF F), 0, 0)) hc147 0 rfl trivial ?_
                refine R_if (t := 24) hc147 rfl rfl (fun (z : 1 = 0) => absurd z (by decide)) (fun (_ : ¬ (1 = 0)) => ?_)
                refine R_s (P := (0 ≤ 0 ∧ 0 < ((A 99).length : Int)) ∧ inI ((rd (A 99) 0) - 1) ∧ True) (f' := (18, [some (vR 88), some (vI 0), some (vI i), some (vI q), none, none], [vI ((rd (A 99) 0) - 1), vI (-1), vI i], LAY (shA A) (shF F), 0, 0)) hc147 8 rfl ⟨⟨by omega, by omega⟩, ⟨by omega, by omega⟩, trivial⟩ ?_
                refine R_cs hc147 rfl rfl ?_ (fun r G h => h)
                refine R_s (P := True) (f' := (2, [some (vI i), some (vI (-1)), some (vI ((rd (A 99) 0) - 1))], [vI (-1), vI i], LAY (shA A) (shF F), 0, 0)) hc104 2 rfl trivial ?_
                refine R_ic (t := 14) hc104 rfl rfl (fun (z : i < (-1)) => absurd z (by omega)) (fun (_ : ¬ (i < (-1))) => ?_)
                refine R_s (P := True) (f' := (7, [some (vI i), some (vI (-1)), some (vI ((rd (A 99) 0) - 1))], [vI ((rd (A 99) 0) - 1), vI i], LAY (shA A) (shF F), 0, 0)) hc104 2 rfl trivial ?_
                refine R_ic (t := 14) hc104 rfl rfl (fun (z : (rd (A 99) 0) - 1 < i) => absurd z (by omega)) (fun (_ : ¬ ((rd (A 99) 0) - 1 < i)) => ?_)
                refine R_s (P := True) (f' := (15, [some (vI i), some (vI (-1)), some (vI ((rd (A 99) 0) - 1))], [vI 1], LAY (shA A) (shF F), 0, 0)) hc104 2 rfl trivial ?_
                refine R_retz hc104 rfl rfl (Or.inr rfl) ?_
                refine R_s (f' := (21, [some (vR 88), some (vI 0), some (vI i), some (vI q), none, none], [vI 1], LAY (shA A) (shF F), 0, 0)) hc147 0 rfl trivial ?_
                refine R_if (t := 31) hc147 rfl rfl (fun (_ : ¬ 1 = 0) => ?_) (fun (z : ¬ (¬ 1 = 0)) => absurd (by decide) z)
                refine R_s (P := True) (f' := (33, [some (vR 88), some (vI 0), some (vI i), some (vI q), none, none], [vI (-1), vI i], LAY (shA A) (shF F), 0, 0)) hc147 2 rfl trivial ?_
                refine R_ic (t := 43) hc147 rfl rfl (fun (_ : ¬ i = (-1)) => ?_) (fun (z : ¬ (¬ i = (-1))) => absurd (show ¬ i = (-1) by omega) z)
                refine R_s (P := True) (f' := (46, [some (vR 88), some (vI 0), some (vI i), some (vI q), none, none], [vI 5, vI 0, vI q], LAY (shA A) (shF F), 0, 0)) hc147 3 rfl trivial ?_
                refine R_cs hc147 rfl rfl ?_ (fun r G h => h)
                refine R_s (P := True) (f' := (2, [some (vI q), some (vI 0), some (vI 5)], [vI 0, vI q], LAY (shA A) (shF F), 0, 0)) hc104 2 rfl trivial ?_
                refine R_ic (t := 14) hc104 rfl rfl (fun (z : q < 0) => absurd z (by omega)) (fun (_ : ¬ (q < 0)) => ?_)
                refine R_s (P := True) (f' := (7, [some (vI q), some (vI 0), some (vI 5)], [vI 5, vI q], LAY (shA A) (shF F), 0, 0)) hc104 2 rfl trivial ?_
                refine R_ic (t := 14) hc104 rfl rfl (fun (z : 5 < q) => absurd z (by omega)) (fun (_ : ¬ (5 < q)) => ?_)
                refine R_s (P := True) (f' := (15, [some (vI q), some (vI 0), some (vI 5)], [vI 1], LAY (shA A) (shF F), 0, 0)) hc104 2 rfl trivial ?_
                refine R_retz hc104 rfl rfl (Or.inr rfl) ?_
                refine R_s (f' := (49, [some (vR 88), some (vI 0), some (vI i), some (vI q), none, none], [vI 1], LAY (shA A) (shF F), 0, 0)) hc147 0 rfl trivial ?_
                refine R_if (t := 59) hc147 rfl rfl (fun (_ : ¬ 1 = 0) => ?_) (fun (z : ¬ (¬ 1 = 0)) => absurd (by decide) z)
                refine R_s (P := inI 0 ∧ inI (8 * i) ∧ inI (0 + (8 * i)) ∧ (0 ≤ 0 + (8 * i) ∧ 0 + (8 * i) < ((A 100).length : Int)) ∧ True) (f' := (81, [some (vR 88), some (vI 0), some (vI i), some (vI q), some (vI (0 + (8 * i))), some (vI (rd (A 100) (0 + (8 * i))))], [vI 1, vI q], LAY (shA A) (shF F), 0, 0)) hc147 15 rfl ⟨⟨by omega, by omega⟩, ⟨by omega, by omega⟩, ⟨by omega, by omega⟩, ⟨by omega, by omega⟩, trivial⟩ ?_
                refine R_ic (t := 90) hc147 rfl rfl (fun (_ : ¬ q = 1) => ?_) (fun (z : ¬ (¬ q = 1)) => absurd (show ¬ q = 1 by omega) z)
                refine R_s (P := True) (f' := (92, [some (vR 88), some (vI 0), some (vI i), some (vI q), some (vI (0 + (8 * i))), some (vI (rd (A 100) (0 + (8 * i))))], [vI 2, vI q], LAY (shA A) (shF F), 0, 0)) hc147 2 rfl trivial ?_
                refine R_ic (t := 107) hc147 rfl rfl (fun (z : ¬ q = 2) => absurd z (by omega)) (fun (_ : ¬ (¬ q = 2)) => ?_)
                refine R_s (P := True) (f' := (98, [some (vR 88), some (vI 0), some (vI i), some (vI q), some (vI (0 + (8 * i))), some (vI (rd (A 100) (0 + (8 * i))))], [vI 1, vI (rd (A 100) (0 + (8 * i)))], LAY (shA A) (shF F), 0, 0)) hc147 2 rfl trivial ?_
                refine R_ic (t := 107) hc147 rfl rfl (fun (z : rd (A 100) (0 + (8 * i)) = 1) => absurd z (by omega)) (fun (_ : ¬ (rd (A 100) (0 + (8 * i)) = 1)) => ?_)
                refine R_s (P := True) (f' := (104, [some (vR 88), some (vI 0), some (vI i), some (vI q), some (vI (0 + (8 * i))), some (vI (rd (A 100) (0 + (8 * i))))], [vI 2, vI (rd (A 100) (0 + (8 * i)))], LAY (shA A) (shF F), 0, 0)) hc147 2 rfl trivial ?_
                refine R_ic (t := 134) hc147 rfl rfl (fun (z : ¬ rd (A 100) (0 + (8 * i)) = 2) => absurd z (by omega)) (fun (_ : ¬ (¬ rd (A 100) (0 + (8 * i)) = 2)) => ?_)
                refine R_s (P := True) (f' := (109, [some (vR 88), some (vI 0), some (vI i), some (vI q), some (vI (0 + (8 * i))), some (vI (rd (A 100) (0 + (8 * i))))], [vI 3, vI q], LAY (shA A) (shF F), 0, 0)) hc147 2 rfl trivial ?_
                refine R_ic (t := 123) hc147 rfl rfl (fun (_ : ¬ q = 3) => ?_) (fun (z : ¬ (¬ q = 3)) => absurd (show ¬ q = 3 by omega) z)
                refine R_s (P := True) (f' := (125, [some (vR 88), some (vI 0), some (vI i), some (vI q), some (vI (0 + (8 * i))), some (vI (rd (A 100) (0 + (8 * i))))], [vI 4, vI q], LAY (shA A) (shF F), 0, 0)) hc147 2 rfl trivial ?_
                refine R_ic (t := 141) hc147 rfl rfl (fun (_ : ¬ q = 4) => ?_) (fun (z : ¬ (¬ q = 4)) => absurd (show ¬ q = 4 by omega) z)
                refine R_s (P := True) (f' := (143, [some (vR 88), some (vI 0), some (vI i), some (vI q), some (vI (0 + (8 * i))), some (vI (rd (A 100) (0 + (8 * i))))], [vI 5, vI q], LAY (shA A) (shF F), 0, 0)) hc147 2 rfl trivial ?_
                refine R_ic (t := 166) hc147 rfl rfl (fun (_ : ¬ q = 5) => ?_) (fun (z : ¬ (¬ q = 5)) => absurd (show ¬ q = 5 by omega) z)
                refine R_s (P := inI ((0 + (8 * i)) + q) ∧ (0 ≤ (0 + (8 * i)) + q ∧ (0 + (8 * i)) + q < ((A 100).length : Int)) ∧ True) (f' := (175, [some (vR 88), some (vI 0), some (vI i), some (vI q), some (vI (0 + (8 * i))), some (vI (rd (A 100) (0 + (8 * i))))], [vI (rd (A 100) ((0 + (8 * i)) + q))], LAY (shA A) (shF F), 0, 0)) hc147 6 rfl ⟨⟨by omega, by omega⟩, ⟨by omega, by omega⟩, trivial⟩ ?_
                refine R_reti hc147 rfl rfl ?_
                first
                  | (exfalso; omega; done)
                  | exact ⟨(by rw [show rd (A 100) ((0 + (8 * i)) + q) = rd (A 23) i by omega]), A, F, rfl, rfl, REL_c hR0⟩
                  | (have e9 : rd (A 100) ((0 + (8 * i)) + q) = rd (A 23) i := (by rw [show q = 2 by omega]; have z := mI_0 hR0 hd (i := i) (by omega) (by omega); omega); exact ⟨(by rw [show rd (A 100) ((0 + (8 * i)) + q) = rd (A 23) i by omega]), A, F, rfl, rfl, REL_c hR0⟩)
          | 3, hio, c8 =>
            cases hio
            refine R_s (f' := (151, [some (vR 1), some (vI 0), some (vI i), some (vI q), some (vR 20), some (vI (rd (A 21) i))], [], LAY (shA A) (shF F), 0, 0)) hc73 0 rfl trivial ?_
            refine R_s (P := True) (f' := (153, [some (vR 1), some (vI 0), some (vI i), some (vI q), some (vR 20), some (vI (rd (A 21) i))], [vI (rd (A 21) i)], LAY (shA A) (shF F), 0, 0)) hc73 1 rfl trivial ?_
            refine R_if (t := 162) hc73 rfl rfl (fun (c16 : rd (A 21) i = 0) => ?_) (fun (c16 : ¬ (rd (A 21) i = 0)) => ?_)
            · refine R_s (P := (0 ≤ i ∧ i < ((A 24).length : Int)) ∧ True) (f' := (178, [some (vR 1), some (vI 0), some (vI i), some (vI q), some (vR 20), some (vI (rd (A 21) i))], [vI (rd (A 24) i)], LAY (shA A) (shF F), 0, 0)) hc73 5 rfl ⟨⟨by omega, by omega⟩, trivial⟩ ?_
              refine R_reti hc73 rfl rfl ?_
              refine R_s (P := True) (f' := (2, [some (vR 88), some (vI 0), some (vI i), some (vI q), none, none], [vI 0, vR 88], LAY (shA A) (shF F), 0, 0)) hc147 2 rfl trivial ?_
              refine R_cv hc147 rfl rfl ?_ (fun r G h => h)
              refine R_s (P := inI ((F 0) - 1) ∧ True) (f' := (8, [some (vR 88), some (vI 0)], [vI ((F 0) - 1), vI 0, vI 0], LAY (shA A) (shF F), 0, 0)) hc108 6 rfl ⟨⟨by omega, by omega⟩, trivial⟩ ?_
              refine R_cs hc108 rfl rfl ?_ (fun r G h => h)
              refine R_s (P := True) (f' := (2, [some (vI 0), some (vI 0), some (vI ((F 0) - 1))], [vI 0, vI 0], LAY (shA A) (shF F), 0, 0)) hc104 2 rfl trivial ?_
              refine R_ic (t := 14) hc104 rfl rfl (fun (z : 0 < 0) => absurd z (by decide)) (fun (_ : ¬ (0 < 0)) => ?_)
              refine R_s (P := True) (f' := (7, [some (vI 0), some (vI 0), some (vI ((F 0) - 1))], [vI ((F 0) - 1), vI 0], LAY (shA A) (shF F), 0, 0)) hc104 2 rfl trivial ?_
              refine R_ic (t := 14) hc104 rfl rfl (fun (z : (F 0) - 1 < 0) => absurd z (by omega)) (fun (_ : ¬ ((F 0) - 1 < 0)) => ?_)
              refine R_s (P := True) (f' := (15, [some (vI 0), some (vI 0), some (vI ((F 0) - 1))], [vI 1], LAY (shA A) (shF F), 0, 0)) hc104 2 rfl trivial ?_
              refine R_retz hc104 rfl rfl (Or.inr rfl) ?_
              refine R_s (f' := (11, [some (vR 88), some (vI 0)], [vI 1], LAY (shA A) (shF F), 0, 0)) hc108 0 rfl trivial ?_
              refine R_retz hc108 rfl rfl (Or.inr rfl) ?_
              refine R_s (f' := (5, [some (vR 88), some (vI 0), some (vI i), some (vI q), none, none], [vI 1], LAY (shA A) (shF F), 0, 0)) hc147 0 rfl trivial ?_
              refine R_if (t := 24) hc147 rfl rfl (fun (z : 1 = 0) => absurd z (by decide)) (fun (_ : ¬ (1 = 0)) => ?_)
              refine R_s (P := (0 ≤ 0 ∧ 0 < ((A 99).length : Int)) ∧ inI ((rd (A 99) 0) - 1) ∧ True) (f' := (18, [some (vR 88), some (vI 0), some (vI i), some (vI q), none, none], [vI ((rd (A 99) 0) - 1), vI (-1), vI i], LAY (shA A) (shF F), 0, 0)) hc147 8 rfl ⟨⟨by omega, by omega⟩, ⟨by omega, by omega⟩, trivial⟩ ?_
              refine R_cs hc147 rfl rfl ?_ (fun r G h => h)
              refine R_s (P := True) (f' := (2, [some (vI i), some (vI (-1)), some (vI ((rd (A 99) 0) - 1))], [vI (-1), vI i], LAY (shA A) (shF F), 0, 0)) hc104 2 rfl trivial ?_
              refine R_ic (t := 14) hc104 rfl rfl (fun (z : i < (-1)) => absurd z (by omega)) (fun (_ : ¬ (i < (-1))) => ?_)
              refine R_s (P := True) (f' := (7, [some (vI i), some (vI (-1)), some (vI ((rd (A 99) 0) - 1))], [vI ((rd (A 99) 0) - 1), vI i], LAY (shA A) (shF F), 0, 0)) hc104 2 rfl trivial ?_
              refine R_ic (t := 14) hc104 rfl rfl (fun (z : (rd (A 99) 0) - 1 < i) => absurd z (by omega)) (fun (_ : ¬ ((rd (A 99) 0) - 1 < i)) => ?_)
              refine R_s (P := True) (f' := (15, [some (vI i), some (vI (-1)), some (vI ((rd (A 99) 0) - 1))], [vI 1], LAY (shA A) (shF F), 0, 0)) hc104 2 rfl trivial ?_
              refine R_retz hc104 rfl rfl (Or.inr rfl) ?_
              refine R_s (f' := (21, [some (vR 88), some (vI 0), some (vI i), some (vI q), none, none], [vI 1], LAY (shA A) (shF F), 0, 0)) hc147 0 rfl trivial ?_
              refine R_if (t := 31) hc147 rfl rfl (fun (_ : ¬ 1 = 0) => ?_) (fun (z : ¬ (¬ 1 = 0)) => absurd (by decide) z)
              refine R_s (P := True) (f' := (33, [some (vR 88), some (vI 0), some (vI i), some (vI q), none, none], [vI (-1), vI i], LAY (shA A) (shF F), 0, 0)) hc147 2 rfl trivial ?_
              refine R_ic (t := 43) hc147 rfl rfl (fun (_ : ¬ i = (-1)) => ?_) (fun (z : ¬ (¬ i = (-1))) => absurd (show ¬ i = (-1) by omega) z)
              refine R_s (P := True) (f' := (46, [some (vR 88), some (vI 0), some (vI i), some (vI q), none, none], [vI 5, vI 0, vI q], LAY (shA A) (shF F), 0, 0)) hc147 3 rfl trivial ?_
              refine R_cs hc147 rfl rfl ?_ (fun r G h => h)
              refine R_s (P := True) (f' := (2, [some (vI q), some (vI 0), some (vI 5)], [vI 0, vI q], LAY (shA A) (shF F), 0, 0)) hc104 2 rfl trivial ?_
              refine R_ic (t := 14) hc104 rfl rfl (fun (z : q < 0) => absurd z (by omega)) (fun (_ : ¬ (q < 0)) => ?_)
              refine R_s (P := True) (f' := (7, [some (vI q), some (vI 0), some (vI 5)], [vI 5, vI q], LAY (shA A) (shF F), 0, 0)) hc104 2 rfl trivial ?_
              refine R_ic (t := 14) hc104 rfl rfl (fun (z : 5 < q) => absurd z (by omega)) (fun (_ : ¬ (5 < q)) => ?_)
              refine R_s (P := True) (f' := (15, [some (vI q), some (vI 0), some (vI 5)], [vI 1], LAY (shA A) (shF F), 0, 0)) hc104 2 rfl trivial ?_
              refine R_retz hc104 rfl rfl (Or.inr rfl) ?_
              refine R_s (f' := (49, [some (vR 88), some (vI 0), some (vI i), some (vI q), none, none], [vI 1], LAY (shA A) (shF F), 0, 0)) hc147 0 rfl trivial ?_
              refine R_if (t := 59) hc147 rfl rfl (fun (_ : ¬ 1 = 0) => ?_) (fun (z : ¬ (¬ 1 = 0)) => absurd (by decide) z)
              refine R_s (P := inI 0 ∧ inI (8 * i) ∧ inI (0 + (8 * i)) ∧ (0 ≤ 0 + (8 * i) ∧ 0 + (8 * i) < ((A 100).length : Int)) ∧ True) (f' := (81, [some (vR 88), some (vI 0), some (vI i), some (vI q), some (vI (0 + (8 * i))), some (vI (rd (A 100) (0 + (8 * i))))], [vI 1, vI q], LAY (shA A) (shF F), 0, 0)) hc147 15 rfl ⟨⟨by omega, by omega⟩, ⟨by omega, by omega⟩, ⟨by omega, by omega⟩, ⟨by omega, by omega⟩, trivial⟩ ?_
              refine R_ic (t := 90) hc147 rfl rfl (fun (_ : ¬ q = 1) => ?_) (fun (z : ¬ (¬ q = 1)) => absurd (show ¬ q = 1 by omega) z)
              refine R_s (P := True) (f' := (92, [some (vR 88), some (vI 0), some (vI i), some (vI q), some (vI (0 + (8 * i))), some (vI (rd (A 100) (0 + (8 * i))))], [vI 2, vI q], LAY (shA A) (shF F), 0, 0)) hc147 2 rfl trivial ?_
              refine R_ic (t := 107) hc147 rfl rfl (fun (_ : ¬ q = 2) => ?_) (fun (z : ¬ (¬ q = 2)) => absurd (show ¬ q = 2 by omega) z)
              refine R_s (P := True) (f' := (109, [some (vR 88), some (vI 0), some (vI i), some (vI q), some (vI (0 + (8 * i))), some (vI (rd (A 100) (0 + (8 * i))))], [vI 3, vI q], LAY (shA A) (shF F), 0, 0)) hc147 2 rfl trivial ?_
              refine R_ic (t := 123) hc147 rfl rfl (fun (z : ¬ q = 3) => absurd z (by omega)) (fun (_ : ¬ (¬ q = 3)) => ?_)
              refine R_s (P := True) (f' := (114, [some (vR 88), some (vI 0), some (vI i), some (vI q), some (vI (0 + (8 * i))), some (vI (rd (A 100) (0 + (8 * i))))], [vI (rd (A 100) (0 + (8 * i)))], LAY (shA A) (shF F), 0, 0)) hc147 1 rfl trivial ?_
              refine R_if (t := 123) hc147 rfl rfl (fun (_ : rd (A 100) (0 + (8 * i)) = 0) => ?_) (fun (z : ¬ (rd (A 100) (0 + (8 * i)) = 0)) => absurd (show rd (A 100) (0 + (8 * i)) = 0 by omega) z)
              refine R_s (P := True) (f' := (125, [some (vR 88), some (vI 0), some (vI i), some (vI q), some (vI (0 + (8 * i))), some (vI (rd (A 100) (0 + (8 * i))))], [vI 4, vI q], LAY (shA A) (shF F), 0, 0)) hc147 2 rfl trivial ?_
              refine R_ic (t := 141) hc147 rfl rfl (fun (_ : ¬ q = 4) => ?_) (fun (z : ¬ (¬ q = 4)) => absurd (show ¬ q = 4 by omega) z)
              refine R_s (P := True) (f' := (143, [some (vR 88), some (vI 0), some (vI i), some (vI q), some (vI (0 + (8 * i))), some (vI (rd (A 100) (0 + (8 * i))))], [vI 5, vI q], LAY (shA A) (shF F), 0, 0)) hc147 2 rfl trivial ?_
              refine R_ic (t := 166) hc147 rfl rfl (fun (_ : ¬ q = 5) => ?_) (fun (z : ¬ (¬ q = 5)) => absurd (show ¬ q = 5 by omega) z)
              refine R_s (P := inI ((0 + (8 * i)) + q) ∧ (0 ≤ (0 + (8 * i)) + q ∧ (0 + (8 * i)) + q < ((A 100).length : Int)) ∧ True) (f' := (175, [some (vR 88), some (vI 0), some (vI i), some (vI q), some (vI (0 + (8 * i))), some (vI (rd (A 100) (0 + (8 * i))))], [vI (rd (A 100) ((0 + (8 * i)) + q))], LAY (shA A) (shF F), 0, 0)) hc147 6 rfl ⟨⟨by omega, by omega⟩, ⟨by omega, by omega⟩, trivial⟩ ?_
              refine R_reti hc147 rfl rfl ?_
              first
                | (exfalso; omega; done)
                | exact ⟨(by rw [show rd (A 100) ((0 + (8 * i)) + q) = rd (A 24) i by omega]), A, F, rfl, rfl, REL_c hR0⟩
                | (have e9 : rd (A 100) ((0 + (8 * i)) + q) = rd (A 24) i := (by rw [show q = 3 by omega]; have z := mI_0 hR0 hd (i := i) (by omega) (by omega); omega); exact ⟨(by rw [show rd (A 100) ((0 + (8 * i)) + q) = rd (A 24) i by omega]), A, F, rfl, rfl, REL_c hR0⟩)
            · refine R_s (P := True) (f' := (159, [some (vR 1), some (vI 0), some (vI i), some (vI q), some (vR 20), some (vI (rd (A 21) i))], [vI 3, vI (rd (A 21) i)], LAY (shA A) (shF F), 0, 0)) hc73 2 rfl trivial ?_
              refine R_ic (t := 172) hc73 rfl rfl (fun (c17 : ¬ rd (A 21) i = 3) => ?_) (fun (c17 : ¬ (¬ rd (A 21) i = 3)) => ?_)
              · refine R_s (P := True) (f' := (175, [some (vR 1), some (vI 0), some (vI i), some (vI q), some (vR 20), some (vI (rd (A 21) i))], [vI (-5), vR 1], LAY (shA A) (shF F), 0, 0)) hc73 2 rfl trivial ?_
                refine R_cv hc73 rfl rfl ?_ (fun r G h => h)
                refine R_s (P := True) (f' := (3, [some (vR 1), some (vI (-5))], [vI (-2), vI (-5)], LAY (shA A) (shF F), 0, 0)) hc93 2 rfl trivial ?_
                refine R_ic (t := 23) hc93 rfl rfl (fun (z : (-2) < (-5)) => absurd z (by decide)) (fun (_ : ¬ ((-2) < (-5))) => ?_)
                refine R_s (P := True) (f' := (9, [some (vR 1), some (vI (-5))], [vI (-8), vI (-5)], LAY (shA A) (shF F), 0, 0)) hc93 2 rfl trivial ?_
                refine R_ic (t := 23) hc93 rfl rfl (fun (z : (-5) < (-8)) => absurd z (by decide)) (fun (_ : ¬ ((-5) < (-8))) => ?_)
                refine R_s (P := inI 5 ∧ (0 ≤ 5 ∧ 5 < ((A 87).length : Int)) ∧ inI ((rd (A 87) 5) + 1) ∧ (0 ≤ 5 ∧ 5 < ((A 87).length : Int)) ∧ True) (f' := (24, [some (vR 1), some (vI (-5))], [vI (-5)], LAY (u (shA A) 87 (wr (A 87) 5 ((rd (A 87) 5) + 1))) (shF F), 0, 0)) hc93 10 rfl ⟨⟨by omega, by omega⟩, ⟨by omega, by omega⟩, ⟨by omega, by omega⟩, ⟨by omega, by omega⟩, trivial⟩ ?_
                refine R_reti hc93 rfl rfl ?_
                refine R_s (f' := (178, [some (vR 1), some (vI 0), some (vI i), some (vI q), some (vR 20), some (vI (rd (A 21) i))], [vI (-5)], LAY (u (shA A) 87 (wr (A 87) 5 ((rd (A 87) 5) + 1))) (shF F), 0, 0)) hc73 0 rfl trivial ?_
                refine R_reti hc73 rfl rfl ?_
                refine R_s (P := True) (f' := (2, [some (vR 88), some (vI 0), some (vI i), some (vI q), none, none], [vI 0, vR 88], LAY (u (shA A) 87 (wr (A 87) 5 ((rd (A 87) 5) + 1))) (shF F), 0, 0)) hc147 2 rfl trivial ?_
                refine R_cv hc147 rfl rfl ?_ (fun r G h => h)
                refine R_s (P := inI ((F 0) - 1) ∧ True) (f' := (8, [some (vR 88), some (vI 0)], [vI ((F 0) - 1), vI 0, vI 0], LAY (u (shA A) 87 (wr (A 87) 5 ((rd (A 87) 5) + 1))) (shF F), 0, 0)) hc108 6 rfl ⟨⟨by omega, by omega⟩, trivial⟩ ?_
                refine R_cs hc108 rfl rfl ?_ (fun r G h => h)
                refine R_s (P := True) (f' := (2, [some (vI 0), some (vI 0), some (vI ((F 0) - 1))], [vI 0, vI 0], LAY (u (shA A) 87 (wr (A 87) 5 ((rd (A 87) 5) + 1))) (shF F), 0, 0)) hc104 2 rfl trivial ?_
                refine R_ic (t := 14) hc104 rfl rfl (fun (z : 0 < 0) => absurd z (by decide)) (fun (_ : ¬ (0 < 0)) => ?_)
                refine R_s (P := True) (f' := (7, [some (vI 0), some (vI 0), some (vI ((F 0) - 1))], [vI ((F 0) - 1), vI 0], LAY (u (shA A) 87 (wr (A 87) 5 ((rd (A 87) 5) + 1))) (shF F), 0, 0)) hc104 2 rfl trivial ?_
                refine R_ic (t := 14) hc104 rfl rfl (fun (z : (F 0) - 1 < 0) => absurd z (by omega)) (fun (_ : ¬ ((F 0) - 1 < 0)) => ?_)
                refine R_s (P := True) (f' := (15, [some (vI 0), some (vI 0), some (vI ((F 0) - 1))], [vI 1], LAY (u (shA A) 87 (wr (A 87) 5 ((rd (A 87) 5) + 1))) (shF F), 0, 0)) hc104 2 rfl trivial ?_
                refine R_retz hc104 rfl rfl (Or.inr rfl) ?_
                refine R_s (f' := (11, [some (vR 88), some (vI 0)], [vI 1], LAY (u (shA A) 87 (wr (A 87) 5 ((rd (A 87) 5) + 1))) (shF F), 0, 0)) hc108 0 rfl trivial ?_
                refine R_retz hc108 rfl rfl (Or.inr rfl) ?_
                refine R_s (f' := (5, [some (vR 88), some (vI 0), some (vI i), some (vI q), none, none], [vI 1], LAY (u (shA A) 87 (wr (A 87) 5 ((rd (A 87) 5) + 1))) (shF F), 0, 0)) hc147 0 rfl trivial ?_
                refine R_if (t := 24) hc147 rfl rfl (fun (z : 1 = 0) => absurd z (by decide)) (fun (_ : ¬ (1 = 0)) => ?_)
                refine R_s (P := (0 ≤ 0 ∧ 0 < ((A 99).length : Int)) ∧ inI ((rd (A 99) 0) - 1) ∧ True) (f' := (18, [some (vR 88), some (vI 0), some (vI i), some (vI q), none, none], [vI ((rd (A 99) 0) - 1), vI (-1), vI i], LAY (u (shA A) 87 (wr (A 87) 5 ((rd (A 87) 5) + 1))) (shF F), 0, 0)) hc147 8 rfl ⟨⟨by omega, by omega⟩, ⟨by omega, by omega⟩, trivial⟩ ?_
                refine R_cs hc147 rfl rfl ?_ (fun r G h => h)
                refine R_s (P := True) (f' := (2, [some (vI i), some (vI (-1)), some (vI ((rd (A 99) 0) - 1))], [vI (-1), vI i], LAY (u (shA A) 87 (wr (A 87) 5 ((rd (A 87) 5) + 1))) (shF F), 0, 0)) hc104 2 rfl trivial ?_
                refine R_ic (t := 14) hc104 rfl rfl (fun (z : i < (-1)) => absurd z (by omega)) (fun (_ : ¬ (i < (-1))) => ?_)
                refine R_s (P := True) (f' := (7, [some (vI i), some (vI (-1)), some (vI ((rd (A 99) 0) - 1))], [vI ((rd (A 99) 0) - 1), vI i], LAY (u (shA A) 87 (wr (A 87) 5 ((rd (A 87) 5) + 1))) (shF F), 0, 0)) hc104 2 rfl trivial ?_
                refine R_ic (t := 14) hc104 rfl rfl (fun (z : (rd (A 99) 0) - 1 < i) => absurd z (by omega)) (fun (_ : ¬ ((rd (A 99) 0) - 1 < i)) => ?_)
                refine R_s (P := True) (f' := (15, [some (vI i), some (vI (-1)), some (vI ((rd (A 99) 0) - 1))], [vI 1], LAY (u (shA A) 87 (wr (A 87) 5 ((rd (A 87) 5) + 1))) (shF F), 0, 0)) hc104 2 rfl trivial ?_
                refine R_retz hc104 rfl rfl (Or.inr rfl) ?_
                refine R_s (f' := (21, [some (vR 88), some (vI 0), some (vI i), some (vI q), none, none], [vI 1], LAY (u (shA A) 87 (wr (A 87) 5 ((rd (A 87) 5) + 1))) (shF F), 0, 0)) hc147 0 rfl trivial ?_
                refine R_if (t := 31) hc147 rfl rfl (fun (_ : ¬ 1 = 0) => ?_) (fun (z : ¬ (¬ 1 = 0)) => absurd (by decide) z)
                refine R_s (P := True) (f' := (33, [some (vR 88), some (vI 0), some (vI i), some (vI q), none, none], [vI (-1), vI i], LAY (u (shA A) 87 (wr (A 87) 5 ((rd (A 87) 5) + 1))) (shF F), 0, 0)) hc147 2 rfl trivial ?_
                refine R_ic (t := 43) hc147 rfl rfl (fun (_ : ¬ i = (-1)) => ?_) (fun (z : ¬ (¬ i = (-1))) => absurd (show ¬ i = (-1) by omega) z)
                refine R_s (P := True) (f' := (46, [some (vR 88), some (vI 0), some (vI i), some (vI q), none, none], [vI 5, vI 0, vI q], LAY (u (shA A) 87 (wr (A 87) 5 ((rd (A 87) 5) + 1))) (shF F), 0, 0)) hc147 3 rfl trivial ?_
                refine R_cs hc147 rfl rfl ?_ (fun r G h => h)
                refine R_s (P := True) (f' := (2, [some (vI q), some (vI 0), some (vI 5)], [vI 0, vI q], LAY (u (shA A) 87 (wr (A 87) 5 ((rd (A 87) 5) + 1))) (shF F), 0, 0)) hc104 2 rfl trivial ?_
                refine R_ic (t := 14) hc104 rfl rfl (fun (z : q < 0) => absurd z (by omega)) (fun (_ : ¬ (q < 0)) => ?_)
                refine R_s (P := True) (f' := (7, [some (vI q), some (vI 0), some (vI 5)], [vI 5, vI q], LAY (u (shA A) 87 (wr (A 87) 5 ((rd (A 87) 5) + 1))) (shF F), 0, 0)) hc104 2 rfl trivial ?_
                refine R_ic (t := 14) hc104 rfl rfl (fun (z : 5 < q) => absurd z (by omega)) (fun (_ : ¬ (5 < q)) => ?_)
                refine R_s (P := True) (f' := (15, [some (vI q), some (vI 0), some (vI 5)], [vI 1], LAY (u (shA A) 87 (wr (A 87) 5 ((rd (A 87) 5) + 1))) (shF F), 0, 0)) hc104 2 rfl trivial ?_
                refine R_retz hc104 rfl rfl (Or.inr rfl) ?_
                refine R_s (f' := (49, [some (vR 88), some (vI 0), some (vI i), some (vI q), none, none], [vI 1], LAY (u (shA A) 87 (wr (A 87) 5 ((rd (A 87) 5) + 1))) (shF F), 0, 0)) hc147 0 rfl trivial ?_
                refine R_if (t := 59) hc147 rfl rfl (fun (_ : ¬ 1 = 0) => ?_) (fun (z : ¬ (¬ 1 = 0)) => absurd (by decide) z)
                refine R_s (P := inI 0 ∧ inI (8 * i) ∧ inI (0 + (8 * i)) ∧ (0 ≤ 0 + (8 * i) ∧ 0 + (8 * i) < ((A 100).length : Int)) ∧ True) (f' := (81, [some (vR 88), some (vI 0), some (vI i), some (vI q), some (vI (0 + (8 * i))), some (vI (rd (A 100) (0 + (8 * i))))], [vI 1, vI q], LAY (u (shA A) 87 (wr (A 87) 5 ((rd (A 87) 5) + 1))) (shF F), 0, 0)) hc147 15 rfl ⟨⟨by omega, by omega⟩, ⟨by omega, by omega⟩, ⟨by omega, by omega⟩, ⟨by omega, by omega⟩, trivial⟩ ?_
                refine R_ic (t := 90) hc147 rfl rfl (fun (_ : ¬ q = 1) => ?_) (fun (z : ¬ (¬ q = 1)) => absurd (show ¬ q = 1 by omega) z)
                refine R_s (P := True) (f' := (92, [some (vR 88), some (vI 0), some (vI i), some (vI q), some (vI (0 + (8 * i))), some (vI (rd (A 100) (0 + (8 * i))))], [vI 2, vI q], LAY (u (shA A) 87 (wr (A 87) 5 ((rd (A 87) 5) + 1))) (shF F), 0, 0)) hc147 2 rfl trivial ?_
                refine R_ic (t := 107) hc147 rfl rfl (fun (_ : ¬ q = 2) => ?_) (fun (z : ¬ (¬ q = 2)) => absurd (show ¬ q = 2 by omega) z)
                refine R_s (P := True) (f' := (109, [some (vR 88), some (vI 0), some (vI i), some (vI q), some (vI (0 + (8 * i))), some (vI (rd (A 100) (0 + (8 * i))))], [vI 3, vI q], LAY (u (shA A) 87 (wr (A 87) 5 ((rd (A 87) 5) + 1))) (shF F), 0, 0)) hc147 2 rfl trivial ?_
                refine R_ic (t := 123) hc147 rfl rfl (fun (z : ¬ q = 3) => absurd z (by omega)) (fun (_ : ¬ (¬ q = 3)) => ?_)
                refine R_s (P := True) (f' := (114, [some (vR 88), some (vI 0), some (vI i), some (vI q), some (vI (0 + (8 * i))), some (vI (rd (A 100) (0 + (8 * i))))], [vI (rd (A 100) (0 + (8 * i)))], LAY (u (shA A) 87 (wr (A 87) 5 ((rd (A 87) 5) + 1))) (shF F), 0, 0)) hc147 1 rfl trivial ?_
                refine R_if (t := 123) hc147 rfl rfl (fun (z : rd (A 100) (0 + (8 * i)) = 0) => absurd z (by omega)) (fun (_ : ¬ (rd (A 100) (0 + (8 * i)) = 0)) => ?_)
                refine R_s (P := True) (f' := (120, [some (vR 88), some (vI 0), some (vI i), some (vI q), some (vI (0 + (8 * i))), some (vI (rd (A 100) (0 + (8 * i))))], [vI 3, vI (rd (A 100) (0 + (8 * i)))], LAY (u (shA A) 87 (wr (A 87) 5 ((rd (A 87) 5) + 1))) (shF F), 0, 0)) hc147 2 rfl trivial ?_
                refine R_ic (t := 134) hc147 rfl rfl (fun (_ : ¬ rd (A 100) (0 + (8 * i)) = 3) => ?_) (fun (z : ¬ (¬ rd (A 100) (0 + (8 * i)) = 3)) => absurd (show ¬ rd (A 100) (0 + (8 * i)) = 3 by omega) z)
                refine R_s (P := True) (f' := (137, [some (vR 88), some (vI 0), some (vI i), some (vI q), some (vI (0 + (8 * i))), some (vI (rd (A 100) (0 + (8 * i))))], [vI (-5), vR 88], LAY (u (shA A) 87 (wr (A 87) 5 ((rd (A 87) 5) + 1))) (shF F), 0, 0)) hc147 2 rfl trivial ?_
                refine R_cv hc147 rfl rfl ?_ (fun r G h => h)
                refine R_s (P := inI 5 ∧ (0 ≤ 5 ∧ 5 < ((A 87).length : Int)) ∧ inI ((rd (A 87) 5) + 1) ∧ (0 ≤ 5 ∧ 5 < ((A 87).length : Int)) ∧ True) (f' := (12, [some (vR 88), some (vI (-5))], [vI (-5)], LAY (u (u (shA A) 87 (wr (A 87) 5 ((rd (A 87) 5) + 1))) 89 (wr (A 87) 5 ((rd (A 87) 5) + 1))) (shF F), 0, 0)) hc105 10 rfl ⟨⟨by omega, by omega⟩, ⟨by omega, by omega⟩, ⟨by omega, by omega⟩, ⟨by omega, by omega⟩, trivial⟩ ?_
                refine R_reti hc105 rfl rfl ?_
                refine R_s (f' := (140, [some (vR 88), some (vI 0), some (vI i), some (vI q), some (vI (0 + (8 * i))), some (vI (rd (A 100) (0 + (8 * i))))], [vI (-5)], LAY (u (u (shA A) 87 (wr (A 87) 5 ((rd (A 87) 5) + 1))) 89 (wr (A 87) 5 ((rd (A 87) 5) + 1))) (shF F), 0, 0)) hc147 0 rfl trivial ?_
                refine R_reti hc147 rfl rfl ?_
                first
                  | (exfalso; omega; done)
                  | exact ⟨rfl, (u A 87 (wr (A 87) 5 ((rd (A 87) 5) + 1))), F, rfl, rfl, REL_ref hR0 (by decide) (by decide)⟩
              · refine R_s (P := (0 ≤ i ∧ i < ((A 24).length : Int)) ∧ True) (f' := (178, [some (vR 1), some (vI 0), some (vI i), some (vI q), some (vR 20), some (vI (rd (A 21) i))], [vI (rd (A 24) i)], LAY (shA A) (shF F), 0, 0)) hc73 5 rfl ⟨⟨by omega, by omega⟩, trivial⟩ ?_
                refine R_reti hc73 rfl rfl ?_
                refine R_s (P := True) (f' := (2, [some (vR 88), some (vI 0), some (vI i), some (vI q), none, none], [vI 0, vR 88], LAY (shA A) (shF F), 0, 0)) hc147 2 rfl trivial ?_
                refine R_cv hc147 rfl rfl ?_ (fun r G h => h)
                refine R_s (P := inI ((F 0) - 1) ∧ True) (f' := (8, [some (vR 88), some (vI 0)], [vI ((F 0) - 1), vI 0, vI 0], LAY (shA A) (shF F), 0, 0)) hc108 6 rfl ⟨⟨by omega, by omega⟩, trivial⟩ ?_
                refine R_cs hc108 rfl rfl ?_ (fun r G h => h)
                refine R_s (P := True) (f' := (2, [some (vI 0), some (vI 0), some (vI ((F 0) - 1))], [vI 0, vI 0], LAY (shA A) (shF F), 0, 0)) hc104 2 rfl trivial ?_
                refine R_ic (t := 14) hc104 rfl rfl (fun (z : 0 < 0) => absurd z (by decide)) (fun (_ : ¬ (0 < 0)) => ?_)
                refine R_s (P := True) (f' := (7, [some (vI 0), some (vI 0), some (vI ((F 0) - 1))], [vI ((F 0) - 1), vI 0], LAY (shA A) (shF F), 0, 0)) hc104 2 rfl trivial ?_
                refine R_ic (t := 14) hc104 rfl rfl (fun (z : (F 0) - 1 < 0) => absurd z (by omega)) (fun (_ : ¬ ((F 0) - 1 < 0)) => ?_)
                refine R_s (P := True) (f' := (15, [some (vI 0), some (vI 0), some (vI ((F 0) - 1))], [vI 1], LAY (shA A) (shF F), 0, 0)) hc104 2 rfl trivial ?_
                refine R_retz hc104 rfl rfl (Or.inr rfl) ?_
                refine R_s (f' := (11, [some (vR 88), some (vI 0)], [vI 1], LAY (shA A) (shF F), 0, 0)) hc108 0 rfl trivial ?_
                refine R_retz hc108 rfl rfl (Or.inr rfl) ?_
                refine R_s (f' := (5, [some (vR 88), some (vI 0), some (vI i), some (vI q), none, none], [vI 1], LAY (shA A) (shF F), 0, 0)) hc147 0 rfl trivial ?_
                refine R_if (t := 24) hc147 rfl rfl (fun (z : 1 = 0) => absurd z (by decide)) (fun (_ : ¬ (1 = 0)) => ?_)
                refine R_s (P := (0 ≤ 0 ∧ 0 < ((A 99).length : Int)) ∧ inI ((rd (A 99) 0) - 1) ∧ True) (f' := (18, [some (vR 88), some (vI 0), some (vI i), some (vI q), none, none], [vI ((rd (A 99) 0) - 1), vI (-1), vI i], LAY (shA A) (shF F), 0, 0)) hc147 8 rfl ⟨⟨by omega, by omega⟩, ⟨by omega, by omega⟩, trivial⟩ ?_
                refine R_cs hc147 rfl rfl ?_ (fun r G h => h)
                refine R_s (P := True) (f' := (2, [some (vI i), some (vI (-1)), some (vI ((rd (A 99) 0) - 1))], [vI (-1), vI i], LAY (shA A) (shF F), 0, 0)) hc104 2 rfl trivial ?_
                refine R_ic (t := 14) hc104 rfl rfl (fun (z : i < (-1)) => absurd z (by omega)) (fun (_ : ¬ (i < (-1))) => ?_)
                refine R_s (P := True) (f' := (7, [some (vI i), some (vI (-1)), some (vI ((rd (A 99) 0) - 1))], [vI ((rd (A 99) 0) - 1), vI i], LAY (shA A) (shF F), 0, 0)) hc104 2 rfl trivial ?_
                refine R_ic (t := 14) hc104 rfl rfl (fun (z : (rd (A 99) 0) - 1 < i) => absurd z (by omega)) (fun (_ : ¬ ((rd (A 99) 0) - 1 < i)) => ?_)
                refine R_s (P := True) (f' := (15, [some (vI i), some (vI (-1)), some (vI ((rd (A 99) 0) - 1))], [vI 1], LAY (shA A) (shF F), 0, 0)) hc104 2 rfl trivial ?_
                refine R_retz hc104 rfl rfl (Or.inr rfl) ?_
                refine R_s (f' := (21, [some (vR 88), some (vI 0), some (vI i), some (vI q), none, none], [vI 1], LAY (shA A) (shF F), 0, 0)) hc147 0 rfl trivial ?_
                refine R_if (t := 31) hc147 rfl rfl (fun (_ : ¬ 1 = 0) => ?_) (fun (z : ¬ (¬ 1 = 0)) => absurd (by decide) z)
                refine R_s (P := True) (f' := (33, [some (vR 88), some (vI 0), some (vI i), some (vI q), none, none], [vI (-1), vI i], LAY (shA A) (shF F), 0, 0)) hc147 2 rfl trivial ?_
                refine R_ic (t := 43) hc147 rfl rfl (fun (_ : ¬ i = (-1)) => ?_) (fun (z : ¬ (¬ i = (-1))) => absurd (show ¬ i = (-1) by omega) z)
                refine R_s (P := True) (f' := (46, [some (vR 88), some (vI 0), some (vI i), some (vI q), none, none], [vI 5, vI 0, vI q], LAY (shA A) (shF F), 0, 0)) hc147 3 rfl trivial ?_
                refine R_cs hc147 rfl rfl ?_ (fun r G h => h)
                refine R_s (P := True) (f' := (2, [some (vI q), some (vI 0), some (vI 5)], [vI 0, vI q], LAY (shA A) (shF F), 0, 0)) hc104 2 rfl trivial ?_
                refine R_ic (t := 14) hc104 rfl rfl (fun (z : q < 0) => absurd z (by omega)) (fun (_ : ¬ (q < 0)) => ?_)
                refine R_s (P := True) (f' := (7, [some (vI q), some (vI 0), some (vI 5)], [vI 5, vI q], LAY (shA A) (shF F), 0, 0)) hc104 2 rfl trivial ?_
                refine R_ic (t := 14) hc104 rfl rfl (fun (z : 5 < q) => absurd z (by omega)) (fun (_ : ¬ (5 < q)) => ?_)
                refine R_s (P := True) (f' := (15, [some (vI q), some (vI 0), some (vI 5)], [vI 1], LAY (shA A) (shF F), 0, 0)) hc104 2 rfl trivial ?_
                refine R_retz hc104 rfl rfl (Or.inr rfl) ?_
                refine R_s (f' := (49, [some (vR 88), some (vI 0), some (vI i), some (vI q), none, none], [vI 1], LAY (shA A) (shF F), 0, 0)) hc147 0 rfl trivial ?_
                refine R_if (t := 59) hc147 rfl rfl (fun (_ : ¬ 1 = 0) => ?_) (fun (z : ¬ (¬ 1 = 0)) => absurd (by decide) z)
                refine R_s (P := inI 0 ∧ inI (8 * i) ∧ inI (0 + (8 * i)) ∧ (0 ≤ 0 + (8 * i) ∧ 0 + (8 * i) < ((A 100).length : Int)) ∧ True) (f' := (81, [some (vR 88), some (vI 0), some (vI i), some (vI q), some (vI (0 + (8 * i))), some (vI (rd (A 100) (0 + (8 * i))))], [vI 1, vI q], LAY (shA A) (shF F), 0, 0)) hc147 15 rfl ⟨⟨by omega, by omega⟩, ⟨by omega, by omega⟩, ⟨by omega, by omega⟩, ⟨by omega, by omega⟩, trivial⟩ ?_
                refine R_ic (t := 90) hc147 rfl rfl (fun (_ : ¬ q = 1) => ?_) (fun (z : ¬ (¬ q = 1)) => absurd (show ¬ q = 1 by omega) z)
                refine R_s (P := True) (f' := (92, [some (vR 88), some (vI 0), some (vI i), some (vI q), some (vI (0 + (8 * i))), some (vI (rd (A 100) (0 + (8 * i))))], [vI 2, vI q], LAY (shA A) (shF F), 0, 0)) hc147 2 rfl trivial ?_
                refine R_ic (t := 107) hc147 rfl rfl (fun (_ : ¬ q = 2) => ?_) (fun (z : ¬ (¬ q = 2)) => absurd (show ¬ q = 2 by omega) z)
                refine R_s (P := True) (f' := (109, [some (vR 88), some (vI 0), some (vI i), some (vI q), some (vI (0 + (8 * i))), some (vI (rd (A 100) (0 + (8 * i))))], [vI 3, vI q], LAY (shA A) (shF F), 0, 0)) hc147 2 rfl trivial ?_
                refine R_ic (t := 123) hc147 rfl rfl (fun (z : ¬ q = 3) => absurd z (by omega)) (fun (_ : ¬ (¬ q = 3)) => ?_)
                refine R_s (P := True) (f' := (114, [some (vR 88), some (vI 0), some (vI i), some (vI q), some (vI (0 + (8 * i))), some (vI (rd (A 100) (0 + (8 * i))))], [vI (rd (A 100) (0 + (8 * i)))], LAY (shA A) (shF F), 0, 0)) hc147 1 rfl trivial ?_
                refine R_if (t := 123) hc147 rfl rfl (fun (z : rd (A 100) (0 + (8 * i)) = 0) => absurd z (by omega)) (fun (_ : ¬ (rd (A 100) (0 + (8 * i)) = 0)) => ?_)
                refine R_s (P := True) (f' := (120, [some (vR 88), some (vI 0), some (vI i), some (vI q), some (vI (0 + (8 * i))), some (vI (rd (A 100) (0 + (8 * i))))], [vI 3, vI (rd (A 100) (0 + (8 * i)))], LAY (shA A) (shF F), 0, 0)) hc147 2 rfl trivial ?_
                refine R_ic (t := 134) hc147 rfl rfl (fun (z : ¬ rd (A 100) (0 + (8 * i)) = 3) => absurd z (by omega)) (fun (_ : ¬ (¬ rd (A 100) (0 + (8 * i)) = 3)) => ?_)
                refine R_s (P := True) (f' := (125, [some (vR 88), some (vI 0), some (vI i), some (vI q), some (vI (0 + (8 * i))), some (vI (rd (A 100) (0 + (8 * i))))], [vI 4, vI q], LAY (shA A) (shF F), 0, 0)) hc147 2 rfl trivial ?_
                refine R_ic (t := 141) hc147 rfl rfl (fun (_ : ¬ q = 4) => ?_) (fun (z : ¬ (¬ q = 4)) => absurd (show ¬ q = 4 by omega) z)
                refine R_s (P := True) (f' := (143, [some (vR 88), some (vI 0), some (vI i), some (vI q), some (vI (0 + (8 * i))), some (vI (rd (A 100) (0 + (8 * i))))], [vI 5, vI q], LAY (shA A) (shF F), 0, 0)) hc147 2 rfl trivial ?_
                refine R_ic (t := 166) hc147 rfl rfl (fun (_ : ¬ q = 5) => ?_) (fun (z : ¬ (¬ q = 5)) => absurd (show ¬ q = 5 by omega) z)
                refine R_s (P := inI ((0 + (8 * i)) + q) ∧ (0 ≤ (0 + (8 * i)) + q ∧ (0 + (8 * i)) + q < ((A 100).length : Int)) ∧ True) (f' := (175, [some (vR 88), some (vI 0), some (vI i), some (vI q), some (vI (0 + (8 * i))), some (vI (rd (A 100) (0 + (8 * i))))], [vI (rd (A 100) ((0 + (8 * i)) + q))], LAY (shA A) (shF F), 0, 0)) hc147 6 rfl ⟨⟨by omega, by omega⟩, ⟨by omega, by omega⟩, trivial⟩ ?_
                refine R_reti hc147 rfl rfl ?_
                first
                  | (exfalso; omega; done)
                  | exact ⟨(by rw [show rd (A 100) ((0 + (8 * i)) + q) = rd (A 24) i by omega]), A, F, rfl, rfl, REL_c hR0⟩
                  | (have e9 : rd (A 100) ((0 + (8 * i)) + q) = rd (A 24) i := (by rw [show q = 3 by omega]; have z := mI_0 hR0 hd (i := i) (by omega) (by omega); omega); exact ⟨(by rw [show rd (A 100) ((0 + (8 * i)) + q) = rd (A 24) i by omega]), A, F, rfl, rfl, REL_c hR0⟩)
          | 4, hio, c8 =>
            cases hio
            refine R_s (f' := (179, [some (vR 1), some (vI 0), some (vI i), some (vI q), some (vR 20), some (vI (rd (A 21) i))], [], LAY (shA A) (shF F), 0, 0)) hc73 0 rfl trivial ?_
            refine R_s (P := True) (f' := (182, [some (vR 1), some (vI 0), some (vI i), some (vI q), some (vR 20), some (vI (rd (A 21) i))], [vI 1, vI (rd (A 21) i)], LAY (shA A) (shF F), 0, 0)) hc73 2 rfl trivial ?_
            refine R_ic (t := 198) hc73 rfl rfl (fun (c20 : ¬ rd (A 21) i = 1) => ?_) (fun (c20 : ¬ (¬ rd (A 21) i = 1)) => ?_)
            · refine R_s (P := True) (f' := (201, [some (vR 1), some (vI 0), some (vI i), some (vI q), some (vR 20), some (vI (rd (A 21) i))], [vI (-5), vR 1], LAY (shA A) (shF F), 0, 0)) hc73 2 rfl trivial ?_
              refine R_cv hc73 rfl rfl ?_ (fun r G h => h)
              refine R_s (P := True) (f' := (3, [some (vR 1), some (vI (-5))], [vI (-2), vI (-5)], LAY (shA A) (shF F), 0, 0)) hc93 2 rfl trivial ?_
              refine R_ic (t := 23) hc93 rfl rfl (fun (z : (-2) < (-5)) => absurd z (by decide)) (fun (_ : ¬ ((-2) < (-5))) => ?_)
              refine R_s (P := True) (f' := (9, [some (vR 1), some (vI (-5))], [vI (-8), vI (-5)], LAY (shA A) (shF F), 0, 0)) hc93 2 rfl trivial ?_
              refine R_ic (t := 23) hc93 rfl rfl (fun (z : (-5) < (-8)) => absurd z (by decide)) (fun (_ : ¬ ((-5) < (-8))) => ?_)
              refine R_s (P := inI 5 ∧ (0 ≤ 5 ∧ 5 < ((A 87).length : Int)) ∧ inI ((rd (A 87) 5) + 1) ∧ (0 ≤ 5 ∧ 5 < ((A 87).length : Int)) ∧ True) (f' := (24, [some (vR 1), some (vI (-5))], [vI (-5)], LAY (u (shA A) 87 (wr (A 87) 5 ((rd (A 87) 5) + 1))) (shF F), 0, 0)) hc93 10 rfl ⟨⟨by omega, by omega⟩, ⟨by omega, by omega⟩, ⟨by omega, by omega⟩, ⟨by omega, by omega⟩, trivial⟩ ?_
              refine R_reti hc93 rfl rfl ?_
              refine R_s (f' := (204, [some (vR 1), some (vI 0), some (vI i), some (vI q), some (vR 20), some (vI (rd (A 21) i))], [vI (-5)], LAY (u (shA A) 87 (wr (A 87) 5 ((rd (A 87) 5) + 1))) (shF F), 0, 0)) hc73 0 rfl trivial ?_
              refine R_reti hc73 rfl rfl ?_
              refine R_s (P := True) (f' := (2, [some (vR 88), some (vI 0), some (vI i), some (vI q), none, none], [vI 0, vR 88], LAY (u (shA A) 87 (wr (A 87) 5 ((rd (A 87) 5) + 1))) (shF F), 0, 0)) hc147 2 rfl trivial ?_
              refine R_cv hc147 rfl rfl ?_ (fun r G h => h)
              refine R_s (P := inI ((F 0) - 1) ∧ True) (f' := (8, [some (vR 88), some (vI 0)], [vI ((F 0) - 1), vI 0, vI 0], LAY (u (shA A) 87 (wr (A 87) 5 ((rd (A 87) 5) + 1))) (shF F), 0, 0)) hc108 6 rfl ⟨⟨by omega, by omega⟩, trivial⟩ ?_
              refine R_cs hc108 rfl rfl ?_ (fun r G h => h)
              refine R_s (P := True) (f' := (2, [some (vI 0), some (vI 0), some (vI ((F 0) - 1))], [vI 0, vI 0], LAY (u (shA A) 87 (wr (A 87) 5 ((rd (A 87) 5) + 1))) (shF F), 0, 0)) hc104 2 rfl trivial ?_
              refine R_ic (t := 14) hc104 rfl rfl (fun (z : 0 < 0) => absurd z (by decide)) (fun (_ : ¬ (0 < 0)) => ?_)
              refine R_s (P := True) (f' := (7, [some (vI 0), some (vI 0), some (vI ((F 0) - 1))], [vI ((F 0) - 1), vI 0], LAY (u (shA A) 87 (wr (A 87) 5 ((rd (A 87) 5) + 1))) (shF F), 0, 0)) hc104 2 rfl trivial ?_
              refine R_ic (t := 14) hc104 rfl rfl (fun (z : (F 0) - 1 < 0) => absurd z (by omega)) (fun (_ : ¬ ((F 0) - 1 < 0)) => ?_)
              refine R_s (P := True) (f' := (15, [some (vI 0), some (vI 0), some (vI ((F 0) - 1))], [vI 1], LAY (u (shA A) 87 (wr (A 87) 5 ((rd (A 87) 5) + 1))) (shF F), 0, 0)) hc104 2 rfl trivial ?_
              refine R_retz hc104 rfl rfl (Or.inr rfl) ?_
              refine R_s (f' := (11, [some (vR 88), some (vI 0)], [vI 1], LAY (u (shA A) 87 (wr (A 87) 5 ((rd (A 87) 5) + 1))) (shF F), 0, 0)) hc108 0 rfl trivial ?_
              refine R_retz hc108 rfl rfl (Or.inr rfl) ?_
              refine R_s (f' := (5, [some (vR 88), some (vI 0), some (vI i), some (vI q), none, none], [vI 1], LAY (u (shA A) 87 (wr (A 87) 5 ((rd (A 87) 5) + 1))) (shF F), 0, 0)) hc147 0 rfl trivial ?_
              refine R_if (t := 24) hc147 rfl rfl (fun (z : 1 = 0) => absurd z (by decide)) (fun (_ : ¬ (1 = 0)) => ?_)
              refine R_s (P := (0 ≤ 0 ∧ 0 < ((A 99).length : Int)) ∧ inI ((rd (A 99) 0) - 1) ∧ True) (f' := (18, [some (vR 88), some (vI 0), some (vI i), some (vI q), none, none], [vI ((rd (A 99) 0) - 1), vI (-1), vI i], LAY (u (shA A) 87 (wr (A 87) 5 ((rd (A 87) 5) + 1))) (shF F), 0, 0)) hc147 8 rfl ⟨⟨by omega, by omega⟩, ⟨by omega, by omega⟩, trivial⟩ ?_
              refine R_cs hc147 rfl rfl ?_ (fun r G h => h)
              refine R_s (P := True) (f' := (2, [some (vI i), some (vI (-1)), some (vI ((rd (A 99) 0) - 1))], [vI (-1), vI i], LAY (u (shA A) 87 (wr (A 87) 5 ((rd (A 87) 5) + 1))) (shF F), 0, 0)) hc104 2 rfl trivial ?_
              refine R_ic (t := 14) hc104 rfl rfl (fun (z : i < (-1)) => absurd z (by omega)) (fun (_ : ¬ (i < (-1))) => ?_)
              refine R_s (P := True) (f' := (7, [some (vI i), some (vI (-1)), some (vI ((rd (A 99) 0) - 1))], [vI ((rd (A 99) 0) - 1), vI i], LAY (u (shA A) 87 (wr (A 87) 5 ((rd (A 87) 5) + 1))) (shF F), 0, 0)) hc104 2 rfl trivial ?_
              refine R_ic (t := 14) hc104 rfl rfl (fun (z : (rd (A 99) 0) - 1 < i) => absurd z (by omega)) (fun (_ : ¬ ((rd (A 99) 0) - 1 < i)) => ?_)
              refine R_s (P := True) (f' := (15, [some (vI i), some (vI (-1)), some (vI ((rd (A 99) 0) - 1))], [vI 1], LAY (u (shA A) 87 (wr (A 87) 5 ((rd (A 87) 5) + 1))) (shF F), 0, 0)) hc104 2 rfl trivial ?_
              refine R_retz hc104 rfl rfl (Or.inr rfl) ?_
              refine R_s (f' := (21, [some (vR 88), some (vI 0), some (vI i), some (vI q), none, none], [vI 1], LAY (u (shA A) 87 (wr (A 87) 5 ((rd (A 87) 5) + 1))) (shF F), 0, 0)) hc147 0 rfl trivial ?_
              refine R_if (t := 31) hc147 rfl rfl (fun (_ : ¬ 1 = 0) => ?_) (fun (z : ¬ (¬ 1 = 0)) => absurd (by decide) z)
              refine R_s (P := True) (f' := (33, [some (vR 88), some (vI 0), some (vI i), some (vI q), none, none], [vI (-1), vI i], LAY (u (shA A) 87 (wr (A 87) 5 ((rd (A 87) 5) + 1))) (shF F), 0, 0)) hc147 2 rfl trivial ?_
              refine R_ic (t := 43) hc147 rfl rfl (fun (_ : ¬ i = (-1)) => ?_) (fun (z : ¬ (¬ i = (-1))) => absurd (show ¬ i = (-1) by omega) z)
              refine R_s (P := True) (f' := (46, [some (vR 88), some (vI 0), some (vI i), some (vI q), none, none], [vI 5, vI 0, vI q], LAY (u (shA A) 87 (wr (A 87) 5 ((rd (A 87) 5) + 1))) (shF F), 0, 0)) hc147 3 rfl trivial ?_
              refine R_cs hc147 rfl rfl ?_ (fun r G h => h)
              refine R_s (P := True) (f' := (2, [some (vI q), some (vI 0), some (vI 5)], [vI 0, vI q], LAY (u (shA A) 87 (wr (A 87) 5 ((rd (A 87) 5) + 1))) (shF F), 0, 0)) hc104 2 rfl trivial ?_
              refine R_ic (t := 14) hc104 rfl rfl (fun (z : q < 0) => absurd z (by omega)) (fun (_ : ¬ (q < 0)) => ?_)
              refine R_s (P := True) (f' := (7, [some (vI q), some (vI 0), some (vI 5)], [vI 5, vI q], LAY (u (shA A) 87 (wr (A 87) 5 ((rd (A 87) 5) + 1))) (shF F), 0, 0)) hc104 2 rfl trivial ?_
              refine R_ic (t := 14) hc104 rfl rfl (fun (z : 5 < q) => absurd z (by omega)) (fun (_ : ¬ (5 < q)) => ?_)
              refine R_s (P := True) (f' := (15, [some (vI q), some (vI 0), some (vI 5)], [vI 1], LAY (u (shA A) 87 (wr (A 87) 5 ((rd (A 87) 5) + 1))) (shF F), 0, 0)) hc104 2 rfl trivial ?_
              refine R_retz hc104 rfl rfl (Or.inr rfl) ?_
              refine R_s (f' := (49, [some (vR 88), some (vI 0), some (vI i), some (vI q), none, none], [vI 1], LAY (u (shA A) 87 (wr (A 87) 5 ((rd (A 87) 5) + 1))) (shF F), 0, 0)) hc147 0 rfl trivial ?_
              refine R_if (t := 59) hc147 rfl rfl (fun (_ : ¬ 1 = 0) => ?_) (fun (z : ¬ (¬ 1 = 0)) => absurd (by decide) z)
              refine R_s (P := inI 0 ∧ inI (8 * i) ∧ inI (0 + (8 * i)) ∧ (0 ≤ 0 + (8 * i) ∧ 0 + (8 * i) < ((A 100).length : Int)) ∧ True) (f' := (81, [some (vR 88), some (vI 0), some (vI i), some (vI q), some (vI (0 + (8 * i))), some (vI (rd (A 100) (0 + (8 * i))))], [vI 1, vI q], LAY (u (shA A) 87 (wr (A 87) 5 ((rd (A 87) 5) + 1))) (shF F), 0, 0)) hc147 15 rfl ⟨⟨by omega, by omega⟩, ⟨by omega, by omega⟩, ⟨by omega, by omega⟩, ⟨by omega, by omega⟩, trivial⟩ ?_
              refine R_ic (t := 90) hc147 rfl rfl (fun (_ : ¬ q = 1) => ?_) (fun (z : ¬ (¬ q = 1)) => absurd (show ¬ q = 1 by omega) z)
              refine R_s (P := True) (f' := (92, [some (vR 88), some (vI 0), some (vI i), some (vI q), some (vI (0 + (8 * i))), some (vI (rd (A 100) (0 + (8 * i))))], [vI 2, vI q], LAY (u (shA A) 87 (wr (A 87) 5 ((rd (A 87) 5) + 1))) (shF F), 0, 0)) hc147 2 rfl trivial ?_
              refine R_ic (t := 107) hc147 rfl rfl (fun (_ : ¬ q = 2) => ?_) (fun (z : ¬ (¬ q = 2)) => absurd (show ¬ q = 2 by omega) z)
              refine R_s (P := True) (f' := (109, [some (vR 88), some (vI 0), some (vI i), some (vI q), some (vI (0 + (8 * i))), some (vI (rd (A 100) (0 + (8 * i))))], [vI 3, vI q], LAY (u (shA A) 87 (wr (A 87) 5 ((rd (A 87) 5) + 1))) (shF F), 0, 0)) hc147 2 rfl trivial ?_
              refine R_ic (t := 123) hc147 rfl rfl (fun (_ : ¬ q = 3) => ?_) (fun (z : ¬ (¬ q = 3)) => absurd (show ¬ q = 3 by omega) z)
              refine R_s (P := True) (f' := (125, [some (vR 88), some (vI 0), some (vI i), some (vI q), some (vI (0 + (8 * i))), some (vI (rd (A 100) (0 + (8 * i))))], [vI 4, vI q], LAY (u (shA A) 87 (wr (A 87) 5 ((rd (A 87) 5) + 1))) (shF F), 0, 0)) hc147 2 rfl trivial ?_
              refine R_ic (t := 141) hc147 rfl rfl (fun (z : ¬ q = 4) => absurd z (by omega)) (fun (_ : ¬ (¬ q = 4)) => ?_)
              refine R_s (P := True) (f' := (131, [some (vR 88), some (vI 0), some (vI i), some (vI q), some (vI (0 + (8 * i))), some (vI (rd (A 100) (0 + (8 * i))))], [vI 1, vI (rd (A 100) (0 + (8 * i)))], LAY (u (shA A) 87 (wr (A 87) 5 ((rd (A 87) 5) + 1))) (shF F), 0, 0)) hc147 2 rfl trivial ?_
              refine R_ic (t := 141) hc147 rfl rfl (fun (z : rd (A 100) (0 + (8 * i)) = 1) => absurd z (by omega)) (fun (_ : ¬ (rd (A 100) (0 + (8 * i)) = 1)) => ?_)
              refine R_s (P := True) (f' := (137, [some (vR 88), some (vI 0), some (vI i), some (vI q), some (vI (0 + (8 * i))), some (vI (rd (A 100) (0 + (8 * i))))], [vI (-5), vR 88], LAY (u (shA A) 87 (wr (A 87) 5 ((rd (A 87) 5) + 1))) (shF F), 0, 0)) hc147 2 rfl trivial ?_
              refine R_cv hc147 rfl rfl ?_ (fun r G h => h)
              refine R_s (P := inI 5 ∧ (0 ≤ 5 ∧ 5 < ((A 87).length : Int)) ∧ inI ((rd (A 87) 5) + 1) ∧ (0 ≤ 5 ∧ 5 < ((A 87).length : Int)) ∧ True) (f' := (12, [some (vR 88), some (vI (-5))], [vI (-5)], LAY (u (u (shA A) 87 (wr (A 87) 5 ((rd (A 87) 5) + 1))) 89 (wr (A 87) 5 ((rd (A 87) 5) + 1))) (shF F), 0, 0)) hc105 10 rfl ⟨⟨by omega, by omega⟩, ⟨by omega, by omega⟩, ⟨by omega, by omega⟩, ⟨by omega, by omega⟩, trivial⟩ ?_
              refine R_reti hc105 rfl rfl ?_
              refine R_s (f' := (140, [some (vR 88), some (vI 0), some (vI i), some (vI q), some (vI (0 + (8 * i))), some (vI (rd (A 100) (0 + (8 * i))))], [vI (-5)], LAY (u (u (shA A) 87 (wr (A 87) 5 ((rd (A 87) 5) + 1))) 89 (wr (A 87) 5 ((rd (A 87) 5) + 1))) (shF F), 0, 0)) hc147 0 rfl trivial ?_
              refine R_reti hc147 rfl rfl ?_
              first
                | (exfalso; omega; done)
                | exact ⟨rfl, (u A 87 (wr (A 87) 5 ((rd (A 87) 5) + 1))), F, rfl, rfl, REL_ref hR0 (by decide) (by decide)⟩
            · refine R_s (P := (0 ≤ i ∧ i < ((A 25).length : Int)) ∧ True) (f' := (192, [some (vR 1), some (vI 0), some (vI i), some (vI q), some (vR 20), some (vI (rd (A 21) i))], [vI (rd (A 25) i)], LAY (shA A) (shF F), 0, 0)) hc73 4 rfl ⟨⟨by omega, by omega⟩, trivial⟩ ?_
              refine R_cs hc73 rfl rfl ?_ (fun r G h => h)
              refine R_s (P := True) (f' := (1, [some (vI (rd (A 25) i))], [vI (rd (A 25) i)], LAY (shA A) (shF F), 0, 0)) hc95 1 rfl trivial ?_
              refine R_if (t := 8) hc95 rfl rfl (fun (c23 : rd (A 25) i = 0) => ?_) (fun (c23 : ¬ (rd (A 25) i = 0)) => ?_)
              · refine R_s (P := True) (f' := (9, [some (vI (rd (A 25) i))], [vI 0], LAY (shA A) (shF F), 0, 0)) hc95 1 rfl trivial ?_
                refine R_reti hc95 rfl rfl ?_
                refine R_s (f' := (195, [some (vR 1), some (vI 0), some (vI i), some (vI q), some (vR 20), some (vI (rd (A 21) i))], [vI 0], LAY (shA A) (shF F), 0, 0)) hc73 0 rfl trivial ?_
                refine R_s (P := True) (f' := (204, [some (vR 1), some (vI 0), some (vI i), some (vI q), some (vR 20), some (vI (rd (A 21) i))], [vI 0], LAY (shA A) (shF F), 0, 0)) hc73 1 rfl trivial ?_
                refine R_reti hc73 rfl rfl ?_
                refine R_s (P := True) (f' := (2, [some (vR 88), some (vI 0), some (vI i), some (vI q), none, none], [vI 0, vR 88], LAY (shA A) (shF F), 0, 0)) hc147 2 rfl trivial ?_
                refine R_cv hc147 rfl rfl ?_ (fun r G h => h)
                refine R_s (P := inI ((F 0) - 1) ∧ True) (f' := (8, [some (vR 88), some (vI 0)], [vI ((F 0) - 1), vI 0, vI 0], LAY (shA A) (shF F), 0, 0)) hc108 6 rfl ⟨⟨by omega, by omega⟩, trivial⟩ ?_
                refine R_cs hc108 rfl rfl ?_ (fun r G h => h)
                refine R_s (P := True) (f' := (2, [some (vI 0), some (vI 0), some (vI ((F 0) - 1))], [vI 0, vI 0], LAY (shA A) (shF F), 0, 0)) hc104 2 rfl trivial ?_
                refine R_ic (t := 14) hc104 rfl rfl (fun (z : 0 < 0) => absurd z (by decide)) (fun (_ : ¬ (0 < 0)) => ?_)
                refine R_s (P := True) (f' := (7, [some (vI 0), some (vI 0), some (vI ((F 0) - 1))], [vI ((F 0) - 1), vI 0], LAY (shA A) (shF F), 0, 0)) hc104 2 rfl trivial ?_
                refine R_ic (t := 14) hc104 rfl rfl (fun (z : (F 0) - 1 < 0) => absurd z (by omega)) (fun (_ : ¬ ((F 0) - 1 < 0)) => ?_)
                refine R_s (P := True) (f' := (15, [some (vI 0), some (vI 0), some (vI ((F 0) - 1))], [vI 1], LAY (shA A) (shF F), 0, 0)) hc104 2 rfl trivial ?_
                refine R_retz hc104 rfl rfl (Or.inr rfl) ?_
                refine R_s (f' := (11, [some (vR 88), some (vI 0)], [vI 1], LAY (shA A) (shF F), 0, 0)) hc108 0 rfl trivial ?_
                refine R_retz hc108 rfl rfl (Or.inr rfl) ?_
                refine R_s (f' := (5, [some (vR 88), some (vI 0), some (vI i), some (vI q), none, none], [vI 1], LAY (shA A) (shF F), 0, 0)) hc147 0 rfl trivial ?_
                refine R_if (t := 24) hc147 rfl rfl (fun (z : 1 = 0) => absurd z (by decide)) (fun (_ : ¬ (1 = 0)) => ?_)
                refine R_s (P := (0 ≤ 0 ∧ 0 < ((A 99).length : Int)) ∧ inI ((rd (A 99) 0) - 1) ∧ True) (f' := (18, [some (vR 88), some (vI 0), some (vI i), some (vI q), none, none], [vI ((rd (A 99) 0) - 1), vI (-1), vI i], LAY (shA A) (shF F), 0, 0)) hc147 8 rfl ⟨⟨by omega, by omega⟩, ⟨by omega, by omega⟩, trivial⟩ ?_
                refine R_cs hc147 rfl rfl ?_ (fun r G h => h)
                refine R_s (P := True) (f' := (2, [some (vI i), some (vI (-1)), some (vI ((rd (A 99) 0) - 1))], [vI (-1), vI i], LAY (shA A) (shF F), 0, 0)) hc104 2 rfl trivial ?_
                refine R_ic (t := 14) hc104 rfl rfl (fun (z : i < (-1)) => absurd z (by omega)) (fun (_ : ¬ (i < (-1))) => ?_)
                refine R_s (P := True) (f' := (7, [some (vI i), some (vI (-1)), some (vI ((rd (A 99) 0) - 1))], [vI ((rd (A 99) 0) - 1), vI i], LAY (shA A) (shF F), 0, 0)) hc104 2 rfl trivial ?_
                refine R_ic (t := 14) hc104 rfl rfl (fun (z : (rd (A 99) 0) - 1 < i) => absurd z (by omega)) (fun (_ : ¬ ((rd (A 99) 0) - 1 < i)) => ?_)
                refine R_s (P := True) (f' := (15, [some (vI i), some (vI (-1)), some (vI ((rd (A 99) 0) - 1))], [vI 1], LAY (shA A) (shF F), 0, 0)) hc104 2 rfl trivial ?_
                refine R_retz hc104 rfl rfl (Or.inr rfl) ?_
                refine R_s (f' := (21, [some (vR 88), some (vI 0), some (vI i), some (vI q), none, none], [vI 1], LAY (shA A) (shF F), 0, 0)) hc147 0 rfl trivial ?_
                refine R_if (t := 31) hc147 rfl rfl (fun (_ : ¬ 1 = 0) => ?_) (fun (z : ¬ (¬ 1 = 0)) => absurd (by decide) z)
                refine R_s (P := True) (f' := (33, [some (vR 88), some (vI 0), some (vI i), some (vI q), none, none], [vI (-1), vI i], LAY (shA A) (shF F), 0, 0)) hc147 2 rfl trivial ?_
                refine R_ic (t := 43) hc147 rfl rfl (fun (_ : ¬ i = (-1)) => ?_) (fun (z : ¬ (¬ i = (-1))) => absurd (show ¬ i = (-1) by omega) z)
                refine R_s (P := True) (f' := (46, [some (vR 88), some (vI 0), some (vI i), some (vI q), none, none], [vI 5, vI 0, vI q], LAY (shA A) (shF F), 0, 0)) hc147 3 rfl trivial ?_
                refine R_cs hc147 rfl rfl ?_ (fun r G h => h)
                refine R_s (P := True) (f' := (2, [some (vI q), some (vI 0), some (vI 5)], [vI 0, vI q], LAY (shA A) (shF F), 0, 0)) hc104 2 rfl trivial ?_
                refine R_ic (t := 14) hc104 rfl rfl (fun (z : q < 0) => absurd z (by omega)) (fun (_ : ¬ (q < 0)) => ?_)
                refine R_s (P := True) (f' := (7, [some (vI q), some (vI 0), some (vI 5)], [vI 5, vI q], LAY (shA A) (shF F), 0, 0)) hc104 2 rfl trivial ?_
                refine R_ic (t := 14) hc104 rfl rfl (fun (z : 5 < q) => absurd z (by omega)) (fun (_ : ¬ (5 < q)) => ?_)
                refine R_s (P := True) (f' := (15, [some (vI q), some (vI 0), some (vI 5)], [vI 1], LAY (shA A) (shF F), 0, 0)) hc104 2 rfl trivial ?_
                refine R_retz hc104 rfl rfl (Or.inr rfl) ?_
                refine R_s (f' := (49, [some (vR 88), some (vI 0), some (vI i), some (vI q), none, none], [vI 1], LAY (shA A) (shF F), 0, 0)) hc147 0 rfl trivial ?_
                refine R_if (t := 59) hc147 rfl rfl (fun (_ : ¬ 1 = 0) => ?_) (fun (z : ¬ (¬ 1 = 0)) => absurd (by decide) z)
                refine R_s (P := inI 0 ∧ inI (8 * i) ∧ inI (0 + (8 * i)) ∧ (0 ≤ 0 + (8 * i) ∧ 0 + (8 * i) < ((A 100).length : Int)) ∧ True) (f' := (81, [some (vR 88), some (vI 0), some (vI i), some (vI q), some (vI (0 + (8 * i))), some (vI (rd (A 100) (0 + (8 * i))))], [vI 1, vI q], LAY (shA A) (shF F), 0, 0)) hc147 15 rfl ⟨⟨by omega, by omega⟩, ⟨by omega, by omega⟩, ⟨by omega, by omega⟩, ⟨by omega, by omega⟩, trivial⟩ ?_
                refine R_ic (t := 90) hc147 rfl rfl (fun (_ : ¬ q = 1) => ?_) (fun (z : ¬ (¬ q = 1)) => absurd (show ¬ q = 1 by omega) z)
                refine R_s (P := True) (f' := (92, [some (vR 88), some (vI 0), some (vI i), some (vI q), some (vI (0 + (8 * i))), some (vI (rd (A 100) (0 + (8 * i))))], [vI 2, vI q], LAY (shA A) (shF F), 0, 0)) hc147 2 rfl trivial ?_
                refine R_ic (t := 107) hc147 rfl rfl (fun (_ : ¬ q = 2) => ?_) (fun (z : ¬ (¬ q = 2)) => absurd (show ¬ q = 2 by omega) z)
                refine R_s (P := True) (f' := (109, [some (vR 88), some (vI 0), some (vI i), some (vI q), some (vI (0 + (8 * i))), some (vI (rd (A 100) (0 + (8 * i))))], [vI 3, vI q], LAY (shA A) (shF F), 0, 0)) hc147 2 rfl trivial ?_
                refine R_ic (t := 123) hc147 rfl rfl (fun (_ : ¬ q = 3) => ?_) (fun (z : ¬ (¬ q = 3)) => absurd (show ¬ q = 3 by omega) z)
                refine R_s (P := True) (f' := (125, [some (vR 88), some (vI 0), some (vI i), some (vI q), some (vI (0 + (8 * i))), some (vI (rd (A 100) (0 + (8 * i))))], [vI 4, vI q], LAY (shA A) (shF F), 0, 0)) hc147 2 rfl trivial ?_
                refine R_ic (t := 141) hc147 rfl rfl (fun (z : ¬ q = 4) => absurd z (by omega)) (fun (_ : ¬ (¬ q = 4)) => ?_)
                refine R_s (P := True) (f' := (131, [some (vR 88), some (vI 0), some (vI i), some (vI q), some (vI (0 + (8 * i))), some (vI (rd (A 100) (0 + (8 * i))))], [vI 1, vI (rd (A 100) (0 + (8 * i)))], LAY (shA A) (shF F), 0, 0)) hc147 2 rfl trivial ?_
                refine R_ic (t := 141) hc147 rfl rfl (fun (_ : rd (A 100) (0 + (8 * i)) = 1) => ?_) (fun (z : ¬ (rd (A 100) (0 + (8 * i)) = 1)) => absurd (show rd (A 100) (0 + (8 * i)) = 1 by omega) z)
                refine R_s (P := True) (f' := (143, [some (vR 88), some (vI 0), some (vI i), some (vI q), some (vI (0 + (8 * i))), some (vI (rd (A 100) (0 + (8 * i))))], [vI 5, vI q], LAY (shA A) (shF F), 0, 0)) hc147 2 rfl trivial ?_
                refine R_ic (t := 166) hc147 rfl rfl (fun (_ : ¬ q = 5) => ?_) (fun (z : ¬ (¬ q = 5)) => absurd (show ¬ q = 5 by omega) z)
                refine R_s (P := inI ((0 + (8 * i)) + q) ∧ (0 ≤ (0 + (8 * i)) + q ∧ (0 + (8 * i)) + q < ((A 100).length : Int)) ∧ True) (f' := (175, [some (vR 88), some (vI 0), some (vI i), some (vI q), some (vI (0 + (8 * i))), some (vI (rd (A 100) (0 + (8 * i))))], [vI (rd (A 100) ((0 + (8 * i)) + q))], LAY (shA A) (shF F), 0, 0)) hc147 6 rfl ⟨⟨by omega, by omega⟩, ⟨by omega, by omega⟩, trivial⟩ ?_
                refine R_reti hc147 rfl rfl ?_
                first
                  | (exfalso; omega; done)
                  | exact ⟨(by rw [show rd (A 100) ((0 + (8 * i)) + q) = 0 by omega]), A, F, rfl, rfl, REL_c hR0⟩
                  | (have e9 : rd (A 100) ((0 + (8 * i)) + q) = 0 := (by rw [show q = 4 by omega]; have z := mI_0 hR0 hd (i := i) (by omega) (by omega); omega); exact ⟨(by rw [show rd (A 100) ((0 + (8 * i)) + q) = 0 by omega]), A, F, rfl, rfl, REL_c hR0⟩)
              · refine R_s (P := True) (f' := (9, [some (vI (rd (A 25) i))], [vI 1], LAY (shA A) (shF F), 0, 0)) hc95 2 rfl trivial ?_
                refine R_reti hc95 rfl rfl ?_
                refine R_s (f' := (195, [some (vR 1), some (vI 0), some (vI i), some (vI q), some (vR 20), some (vI (rd (A 21) i))], [vI 1], LAY (shA A) (shF F), 0, 0)) hc73 0 rfl trivial ?_
                refine R_s (P := True) (f' := (204, [some (vR 1), some (vI 0), some (vI i), some (vI q), some (vR 20), some (vI (rd (A 21) i))], [vI 1], LAY (shA A) (shF F), 0, 0)) hc73 1 rfl trivial ?_
                refine R_reti hc73 rfl rfl ?_
                refine R_s (P := True) (f' := (2, [some (vR 88), some (vI 0), some (vI i), some (vI q), none, none], [vI 0, vR 88], LAY (shA A) (shF F), 0, 0)) hc147 2 rfl trivial ?_
                refine R_cv hc147 rfl rfl ?_ (fun r G h => h)
                refine R_s (P := inI ((F 0) - 1) ∧ True) (f' := (8, [some (vR 88), some (vI 0)], [vI ((F 0) - 1), vI 0, vI 0], LAY (shA A) (shF F), 0, 0)) hc108 6 rfl ⟨⟨by omega, by omega⟩, trivial⟩ ?_
                refine R_cs hc108 rfl rfl ?_ (fun r G h => h)
                refine R_s (P := True) (f' := (2, [some (vI 0), some (vI 0), some (vI ((F 0) - 1))], [vI 0, vI 0], LAY (shA A) (shF F), 0, 0)) hc104 2 rfl trivial ?_
                refine R_ic (t := 14) hc104 rfl rfl (fun (z : 0 < 0) => absurd z (by decide)) (fun (_ : ¬ (0 < 0)) => ?_)
                refine R_s (P := True) (f' := (7, [some (vI 0), some (vI 0), some (vI ((F 0) - 1))], [vI ((F 0) - 1), vI 0], LAY (shA A) (shF F), 0, 0)) hc104 2 rfl trivial ?_
                refine R_ic (t := 14) hc104 rfl rfl (fun (z : (F 0) - 1 < 0) => absurd z (by omega)) (fun (_ : ¬ ((F 0) - 1 < 0)) => ?_)
                refine R_s (P := True) (f' := (15, [some (vI 0), some (vI 0), some (vI ((F 0) - 1))], [vI 1], LAY (shA A) (shF F), 0, 0)) hc104 2 rfl trivial ?_
                refine R_retz hc104 rfl rfl (Or.inr rfl) ?_
                refine R_s (f' := (11, [some (vR 88), some (vI 0)], [vI 1], LAY (shA A) (shF F), 0, 0)) hc108 0 rfl trivial ?_
                refine R_retz hc108 rfl rfl (Or.inr rfl) ?_
                refine R_s (f' := (5, [some (vR 88), some (vI 0), some (vI i), some (vI q), none, none], [vI 1], LAY (shA A) (shF F), 0, 0)) hc147 0 rfl trivial ?_
                refine R_if (t := 24) hc147 rfl rfl (fun (z : 1 = 0) => absurd z (by decide)) (fun (_ : ¬ (1 = 0)) => ?_)
                refine R_s (P := (0 ≤ 0 ∧ 0 < ((A 99).length : Int)) ∧ inI ((rd (A 99) 0) - 1) ∧ True) (f' := (18, [some (vR 88), some (vI 0), some (vI i), some (vI q), none, none], [vI ((rd (A 99) 0) - 1), vI (-1), vI i], LAY (shA A) (shF F), 0, 0)) hc147 8 rfl ⟨⟨by omega, by omega⟩, ⟨by omega, by omega⟩, trivial⟩ ?_
                refine R_cs hc147 rfl rfl ?_ (fun r G h => h)
                refine R_s (P := True) (f' := (2, [some (vI i), some (vI (-1)), some (vI ((rd (A 99) 0) - 1))], [vI (-1), vI i], LAY (shA A) (shF F), 0, 0)) hc104 2 rfl trivial ?_
                refine R_ic (t := 14) hc104 rfl rfl (fun (z : i < (-1)) => absurd z (by omega)) (fun (_ : ¬ (i < (-1))) => ?_)
                refine R_s (P := True) (f' := (7, [some (vI i), some (vI (-1)), some (vI ((rd (A 99) 0) - 1))], [vI ((rd (A 99) 0) - 1), vI i], LAY (shA A) (shF F), 0, 0)) hc104 2 rfl trivial ?_
                refine R_ic (t := 14) hc104 rfl rfl (fun (z : (rd (A 99) 0) - 1 < i) => absurd z (by omega)) (fun (_ : ¬ ((rd (A 99) 0) - 1 < i)) => ?_)
                refine R_s (P := True) (f' := (15, [some (vI i), some (vI (-1)), some (vI ((rd (A 99) 0) - 1))], [vI 1], LAY (shA A) (shF F), 0, 0)) hc104 2 rfl trivial ?_
                refine R_retz hc104 rfl rfl (Or.inr rfl) ?_
                refine R_s (f' := (21, [some (vR 88), some (vI 0), some (vI i), some (vI q), none, none], [vI 1], LAY (shA A) (shF F), 0, 0)) hc147 0 rfl trivial ?_
                refine R_if (t := 31) hc147 rfl rfl (fun (_ : ¬ 1 = 0) => ?_) (fun (z : ¬ (¬ 1 = 0)) => absurd (by decide) z)
                refine R_s (P := True) (f' := (33, [some (vR 88), some (vI 0), some (vI i), some (vI q), none, none], [vI (-1), vI i], LAY (shA A) (shF F), 0, 0)) hc147 2 rfl trivial ?_
                refine R_ic (t := 43) hc147 rfl rfl (fun (_ : ¬ i = (-1)) => ?_) (fun (z : ¬ (¬ i = (-1))) => absurd (show ¬ i = (-1) by omega) z)
                refine R_s (P := True) (f' := (46, [some (vR 88), some (vI 0), some (vI i), some (vI q), none, none], [vI 5, vI 0, vI q], LAY (shA A) (shF F), 0, 0)) hc147 3 rfl trivial ?_
                refine R_cs hc147 rfl rfl ?_ (fun r G h => h)
                refine R_s (P := True) (f' := (2, [some (vI q), some (vI 0), some (vI 5)], [vI 0, vI q], LAY (shA A) (shF F), 0, 0)) hc104 2 rfl trivial ?_
                refine R_ic (t := 14) hc104 rfl rfl (fun (z : q < 0) => absurd z (by omega)) (fun (_ : ¬ (q < 0)) => ?_)
                refine R_s (P := True) (f' := (7, [some (vI q), some (vI 0), some (vI 5)], [vI 5, vI q], LAY (shA A) (shF F), 0, 0)) hc104 2 rfl trivial ?_
                refine R_ic (t := 14) hc104 rfl rfl (fun (z : 5 < q) => absurd z (by omega)) (fun (_ : ¬ (5 < q)) => ?_)
                refine R_s (P := True) (f' := (15, [some (vI q), some (vI 0), some (vI 5)], [vI 1], LAY (shA A) (shF F), 0, 0)) hc104 2 rfl trivial ?_
                refine R_retz hc104 rfl rfl (Or.inr rfl) ?_
                refine R_s (f' := (49, [some (vR 88), some (vI 0), some (vI i), some (vI q), none, none], [vI 1], LAY (shA A) (shF F), 0, 0)) hc147 0 rfl trivial ?_
                refine R_if (t := 59) hc147 rfl rfl (fun (_ : ¬ 1 = 0) => ?_) (fun (z : ¬ (¬ 1 = 0)) => absurd (by decide) z)
                refine R_s (P := inI 0 ∧ inI (8 * i) ∧ inI (0 + (8 * i)) ∧ (0 ≤ 0 + (8 * i) ∧ 0 + (8 * i) < ((A 100).length : Int)) ∧ True) (f' := (81, [some (vR 88), some (vI 0), some (vI i), some (vI q), some (vI (0 + (8 * i))), some (vI (rd (A 100) (0 + (8 * i))))], [vI 1, vI q], LAY (shA A) (shF F), 0, 0)) hc147 15 rfl ⟨⟨by omega, by omega⟩, ⟨by omega, by omega⟩, ⟨by omega, by omega⟩, ⟨by omega, by omega⟩, trivial⟩ ?_
                refine R_ic (t := 90) hc147 rfl rfl (fun (_ : ¬ q = 1) => ?_) (fun (z : ¬ (¬ q = 1)) => absurd (show ¬ q = 1 by omega) z)
                refine R_s (P := True) (f' := (92, [some (vR 88), some (vI 0), some (vI i), some (vI q), some (vI (0 + (8 * i))), some (vI (rd (A 100) (0 + (8 * i))))], [vI 2, vI q], LAY (shA A) (shF F), 0, 0)) hc147 2 rfl trivial ?_
                refine R_ic (t := 107) hc147 rfl rfl (fun (_ : ¬ q = 2) => ?_) (fun (z : ¬ (¬ q = 2)) => absurd (show ¬ q = 2 by omega) z)
                refine R_s (P := True) (f' := (109, [some (vR 88), some (vI 0), some (vI i), some (vI q), some (vI (0 + (8 * i))), some (vI (rd (A 100) (0 + (8 * i))))], [vI 3, vI q], LAY (shA A) (shF F), 0, 0)) hc147 2 rfl trivial ?_
                refine R_ic (t := 123) hc147 rfl rfl (fun (_ : ¬ q = 3) => ?_) (fun (z : ¬ (¬ q = 3)) => absurd (show ¬ q = 3 by omega) z)
                refine R_s (P := True) (f' := (125, [some (vR 88), some (vI 0), some (vI i), some (vI q), some (vI (0 + (8 * i))), some (vI (rd (A 100) (0 + (8 * i))))], [vI 4, vI q], LAY (shA A) (shF F), 0, 0)) hc147 2 rfl trivial ?_
                refine R_ic (t := 141) hc147 rfl rfl (fun (z : ¬ q = 4) => absurd z (by omega)) (fun (_ : ¬ (¬ q = 4)) => ?_)
                refine R_s (P := True) (f' := (131, [some (vR 88), some (vI 0), some (vI i), some (vI q), some (vI (0 + (8 * i))), some (vI (rd (A 100) (0 + (8 * i))))], [vI 1, vI (rd (A 100) (0 + (8 * i)))], LAY (shA A) (shF F), 0, 0)) hc147 2 rfl trivial ?_
                refine R_ic (t := 141) hc147 rfl rfl (fun (_ : rd (A 100) (0 + (8 * i)) = 1) => ?_) (fun (z : ¬ (rd (A 100) (0 + (8 * i)) = 1)) => absurd (show rd (A 100) (0 + (8 * i)) = 1 by omega) z)
                refine R_s (P := True) (f' := (143, [some (vR 88), some (vI 0), some (vI i), some (vI q), some (vI (0 + (8 * i))), some (vI (rd (A 100) (0 + (8 * i))))], [vI 5, vI q], LAY (shA A) (shF F), 0, 0)) hc147 2 rfl trivial ?_
                refine R_ic (t := 166) hc147 rfl rfl (fun (_ : ¬ q = 5) => ?_) (fun (z : ¬ (¬ q = 5)) => absurd (show ¬ q = 5 by omega) z)
                refine R_s (P := inI ((0 + (8 * i)) + q) ∧ (0 ≤ (0 + (8 * i)) + q ∧ (0 + (8 * i)) + q < ((A 100).length : Int)) ∧ True) (f' := (175, [some (vR 88), some (vI 0), some (vI i), some (vI q), some (vI (0 + (8 * i))), some (vI (rd (A 100) (0 + (8 * i))))], [vI (rd (A 100) ((0 + (8 * i)) + q))], LAY (shA A) (shF F), 0, 0)) hc147 6 rfl ⟨⟨by omega, by omega⟩, ⟨by omega, by omega⟩, trivial⟩ ?_
                refine R_reti hc147 rfl rfl ?_
                first
                  | (exfalso; omega; done)
                  | exact ⟨(by rw [show rd (A 100) ((0 + (8 * i)) + q) = 1 by omega]), A, F, rfl, rfl, REL_c hR0⟩
                  | (have e9 : rd (A 100) ((0 + (8 * i)) + q) = 1 := (by rw [show q = 4 by omega]; have z := mI_0 hR0 hd (i := i) (by omega) (by omega); omega); exact ⟨(by rw [show rd (A 100) ((0 + (8 * i)) + q) = 1 by omega]), A, F, rfl, rfl, REL_c hR0⟩)
          | 5, hio, c8 =>
            cases hio
            refine R_s (f' := (205, [some (vR 1), some (vI 0), some (vI i), some (vI q), some (vR 20), some (vI (rd (A 21) i))], [], LAY (shA A) (shF F), 0, 0)) hc73 0 rfl trivial ?_
            refine R_s (P := True) (f' := (209, [some (vR 1), some (vI 0), some (vI i), some (vI q), some (vR 20), some (vI (rd (A 21) i))], [vI 0, vR 20, vR 1], LAY (shA A) (shF F), 0, 0)) hc73 3 rfl trivial ?_
            refine R_cv hc73 rfl rfl (l_now0 hR0 hd hS) (fun r G9 hp9 => ?_)
            obtain ⟨rfl, l8, l9, l10, l11, l75, l76, l77, l78, rfl, k8, k9, k10, k11, k75, k76, k77, k78, v75, v76, v77⟩ := hp9
            have y75 : 0 ≤ i → i < F 8 → rd l75 i = so (i).toNat := fun q1 q2 => by
              have z := v75 (i).toNat (by omega)
              rw [show ((((i).toNat : Nat)) : Int) = i by omega] at z
              exact z
            refine R_s (f' := (212, [some (vR 1), some (vI 0), some (vI i), some (vI q), some (vR 20), some (vI (rd (A 21) i))], [], LAY (u (u (u (u (u (u (u (u (shA A) 8 l8) 9 l9) 10 l10) 11 l11) 75 l75) 76 l76) 77 l77) 78 l78) (u (u (shF F) 14 mg) 15 lo), 0, 0)) hc73 0 rfl trivial ?_
            refine R_s (P := (0 ≤ i ∧ i < ((l75).length : Int)) ∧ True) (f' := (221, [some (vR 1), some (vI 0), some (vI i), some (vI q), some (vR 20), some (vI (rd (A 21) i))], [vI (rd l75 i)], LAY (u (u (u (u (u (u (u (u (shA A) 8 l8) 9 l9) 10 l10) 11 l11) 75 l75) 76 l76) 77 l77) 78 l78) (u (u (shF F) 14 mg) 15 lo), 0, 0)) hc73 5 rfl ⟨⟨by omega, by omega⟩, trivial⟩ ?_
            refine R_cs hc73 rfl rfl ?_ (fun r G h => h)
            refine R_s (P := True) (f' := (1, [some (vI (rd l75 i))], [vI (rd l75 i)], LAY (u (u (u (u (u (u (u (u (shA A) 8 l8) 9 l9) 10 l10) 11 l11) 75 l75) 76 l76) 77 l77) 78 l78) (u (u (shF F) 14 mg) 15 lo), 0, 0)) hc95 1 rfl trivial ?_
            refine R_if (t := 8) hc95 rfl rfl (fun (c24 : rd l75 i = 0) => ?_) (fun (c24 : ¬ (rd l75 i = 0)) => ?_)
            · refine R_s (P := True) (f' := (9, [some (vI (rd l75 i))], [vI 0], LAY (u (u (u (u (u (u (u (u (shA A) 8 l8) 9 l9) 10 l10) 11 l11) 75 l75) 76 l76) 77 l77) 78 l78) (u (u (shF F) 14 mg) 15 lo), 0, 0)) hc95 1 rfl trivial ?_
              refine R_reti hc95 rfl rfl ?_
              refine R_s (f' := (224, [some (vR 1), some (vI 0), some (vI i), some (vI q), some (vR 20), some (vI (rd (A 21) i))], [vI 0], LAY (u (u (u (u (u (u (u (u (shA A) 8 l8) 9 l9) 10 l10) 11 l11) 75 l75) 76 l76) 77 l77) 78 l78) (u (u (shF F) 14 mg) 15 lo), 0, 0)) hc73 0 rfl trivial ?_
              refine R_reti hc73 rfl rfl ?_
              refine R_s (P := True) (f' := (2, [some (vR 88), some (vI 0), some (vI i), some (vI q), none, none], [vI 0, vR 88], LAY (u (u (u (u (u (u (u (u (shA A) 8 l8) 9 l9) 10 l10) 11 l11) 75 l75) 76 l76) 77 l77) 78 l78) (u (u (shF F) 14 mg) 15 lo), 0, 0)) hc147 2 rfl trivial ?_
              refine R_cv hc147 rfl rfl ?_ (fun r G h => h)
              refine R_s (P := inI ((F 0) - 1) ∧ True) (f' := (8, [some (vR 88), some (vI 0)], [vI ((F 0) - 1), vI 0, vI 0], LAY (u (u (u (u (u (u (u (u (shA A) 8 l8) 9 l9) 10 l10) 11 l11) 75 l75) 76 l76) 77 l77) 78 l78) (u (u (shF F) 14 mg) 15 lo), 0, 0)) hc108 6 rfl ⟨⟨by omega, by omega⟩, trivial⟩ ?_
              refine R_cs hc108 rfl rfl ?_ (fun r G h => h)
              refine R_s (P := True) (f' := (2, [some (vI 0), some (vI 0), some (vI ((F 0) - 1))], [vI 0, vI 0], LAY (u (u (u (u (u (u (u (u (shA A) 8 l8) 9 l9) 10 l10) 11 l11) 75 l75) 76 l76) 77 l77) 78 l78) (u (u (shF F) 14 mg) 15 lo), 0, 0)) hc104 2 rfl trivial ?_
              refine R_ic (t := 14) hc104 rfl rfl (fun (z : 0 < 0) => absurd z (by decide)) (fun (_ : ¬ (0 < 0)) => ?_)
              refine R_s (P := True) (f' := (7, [some (vI 0), some (vI 0), some (vI ((F 0) - 1))], [vI ((F 0) - 1), vI 0], LAY (u (u (u (u (u (u (u (u (shA A) 8 l8) 9 l9) 10 l10) 11 l11) 75 l75) 76 l76) 77 l77) 78 l78) (u (u (shF F) 14 mg) 15 lo), 0, 0)) hc104 2 rfl trivial ?_
              refine R_ic (t := 14) hc104 rfl rfl (fun (z : (F 0) - 1 < 0) => absurd z (by omega)) (fun (_ : ¬ ((F 0) - 1 < 0)) => ?_)
              refine R_s (P := True) (f' := (15, [some (vI 0), some (vI 0), some (vI ((F 0) - 1))], [vI 1], LAY (u (u (u (u (u (u (u (u (shA A) 8 l8) 9 l9) 10 l10) 11 l11) 75 l75) 76 l76) 77 l77) 78 l78) (u (u (shF F) 14 mg) 15 lo), 0, 0)) hc104 2 rfl trivial ?_
              refine R_retz hc104 rfl rfl (Or.inr rfl) ?_
              refine R_s (f' := (11, [some (vR 88), some (vI 0)], [vI 1], LAY (u (u (u (u (u (u (u (u (shA A) 8 l8) 9 l9) 10 l10) 11 l11) 75 l75) 76 l76) 77 l77) 78 l78) (u (u (shF F) 14 mg) 15 lo), 0, 0)) hc108 0 rfl trivial ?_
              refine R_retz hc108 rfl rfl (Or.inr rfl) ?_
              refine R_s (f' := (5, [some (vR 88), some (vI 0), some (vI i), some (vI q), none, none], [vI 1], LAY (u (u (u (u (u (u (u (u (shA A) 8 l8) 9 l9) 10 l10) 11 l11) 75 l75) 76 l76) 77 l77) 78 l78) (u (u (shF F) 14 mg) 15 lo), 0, 0)) hc147 0 rfl trivial ?_
              refine R_if (t := 24) hc147 rfl rfl (fun (z : 1 = 0) => absurd z (by decide)) (fun (_ : ¬ (1 = 0)) => ?_)
              refine R_s (P := (0 ≤ 0 ∧ 0 < ((A 99).length : Int)) ∧ inI ((rd (A 99) 0) - 1) ∧ True) (f' := (18, [some (vR 88), some (vI 0), some (vI i), some (vI q), none, none], [vI ((rd (A 99) 0) - 1), vI (-1), vI i], LAY (u (u (u (u (u (u (u (u (shA A) 8 l8) 9 l9) 10 l10) 11 l11) 75 l75) 76 l76) 77 l77) 78 l78) (u (u (shF F) 14 mg) 15 lo), 0, 0)) hc147 8 rfl ⟨⟨by omega, by omega⟩, ⟨by omega, by omega⟩, trivial⟩ ?_
              refine R_cs hc147 rfl rfl ?_ (fun r G h => h)
              refine R_s (P := True) (f' := (2, [some (vI i), some (vI (-1)), some (vI ((rd (A 99) 0) - 1))], [vI (-1), vI i], LAY (u (u (u (u (u (u (u (u (shA A) 8 l8) 9 l9) 10 l10) 11 l11) 75 l75) 76 l76) 77 l77) 78 l78) (u (u (shF F) 14 mg) 15 lo), 0, 0)) hc104 2 rfl trivial ?_
              refine R_ic (t := 14) hc104 rfl rfl (fun (z : i < (-1)) => absurd z (by omega)) (fun (_ : ¬ (i < (-1))) => ?_)
              refine R_s (P := True) (f' := (7, [some (vI i), some (vI (-1)), some (vI ((rd (A 99) 0) - 1))], [vI ((rd (A 99) 0) - 1), vI i], LAY (u (u (u (u (u (u (u (u (shA A) 8 l8) 9 l9) 10 l10) 11 l11) 75 l75) 76 l76) 77 l77) 78 l78) (u (u (shF F) 14 mg) 15 lo), 0, 0)) hc104 2 rfl trivial ?_
              refine R_ic (t := 14) hc104 rfl rfl (fun (z : (rd (A 99) 0) - 1 < i) => absurd z (by omega)) (fun (_ : ¬ ((rd (A 99) 0) - 1 < i)) => ?_)
              refine R_s (P := True) (f' := (15, [some (vI i), some (vI (-1)), some (vI ((rd (A 99) 0) - 1))], [vI 1], LAY (u (u (u (u (u (u (u (u (shA A) 8 l8) 9 l9) 10 l10) 11 l11) 75 l75) 76 l76) 77 l77) 78 l78) (u (u (shF F) 14 mg) 15 lo), 0, 0)) hc104 2 rfl trivial ?_
              refine R_retz hc104 rfl rfl (Or.inr rfl) ?_
              refine R_s (f' := (21, [some (vR 88), some (vI 0), some (vI i), some (vI q), none, none], [vI 1], LAY (u (u (u (u (u (u (u (u (shA A) 8 l8) 9 l9) 10 l10) 11 l11) 75 l75) 76 l76) 77 l77) 78 l78) (u (u (shF F) 14 mg) 15 lo), 0, 0)) hc147 0 rfl trivial ?_
              refine R_if (t := 31) hc147 rfl rfl (fun (_ : ¬ 1 = 0) => ?_) (fun (z : ¬ (¬ 1 = 0)) => absurd (by decide) z)
              refine R_s (P := True) (f' := (33, [some (vR 88), some (vI 0), some (vI i), some (vI q), none, none], [vI (-1), vI i], LAY (u (u (u (u (u (u (u (u (shA A) 8 l8) 9 l9) 10 l10) 11 l11) 75 l75) 76 l76) 77 l77) 78 l78) (u (u (shF F) 14 mg) 15 lo), 0, 0)) hc147 2 rfl trivial ?_
              refine R_ic (t := 43) hc147 rfl rfl (fun (_ : ¬ i = (-1)) => ?_) (fun (z : ¬ (¬ i = (-1))) => absurd (show ¬ i = (-1) by omega) z)
              refine R_s (P := True) (f' := (46, [some (vR 88), some (vI 0), some (vI i), some (vI q), none, none], [vI 5, vI 0, vI q], LAY (u (u (u (u (u (u (u (u (shA A) 8 l8) 9 l9) 10 l10) 11 l11) 75 l75) 76 l76) 77 l77) 78 l78) (u (u (shF F) 14 mg) 15 lo), 0, 0)) hc147 3 rfl trivial ?_
              refine R_cs hc147 rfl rfl ?_ (fun r G h => h)
              refine R_s (P := True) (f' := (2, [some (vI q), some (vI 0), some (vI 5)], [vI 0, vI q], LAY (u (u (u (u (u (u (u (u (shA A) 8 l8) 9 l9) 10 l10) 11 l11) 75 l75) 76 l76) 77 l77) 78 l78) (u (u (shF F) 14 mg) 15 lo), 0, 0)) hc104 2 rfl trivial ?_
              refine R_ic (t := 14) hc104 rfl rfl (fun (z : q < 0) => absurd z (by omega)) (fun (_ : ¬ (q < 0)) => ?_)
              refine R_s (P := True) (f' := (7, [some (vI q), some (vI 0), some (vI 5)], [vI 5, vI q], LAY (u (u (u (u (u (u (u (u (shA A) 8 l8) 9 l9) 10 l10) 11 l11) 75 l75) 76 l76) 77 l77) 78 l78) (u (u (shF F) 14 mg) 15 lo), 0, 0)) hc104 2 rfl trivial ?_
              refine R_ic (t := 14) hc104 rfl rfl (fun (z : 5 < q) => absurd z (by omega)) (fun (_ : ¬ (5 < q)) => ?_)
              refine R_s (P := True) (f' := (15, [some (vI q), some (vI 0), some (vI 5)], [vI 1], LAY (u (u (u (u (u (u (u (u (shA A) 8 l8) 9 l9) 10 l10) 11 l11) 75 l75) 76 l76) 77 l77) 78 l78) (u (u (shF F) 14 mg) 15 lo), 0, 0)) hc104 2 rfl trivial ?_
              refine R_retz hc104 rfl rfl (Or.inr rfl) ?_
              refine R_s (f' := (49, [some (vR 88), some (vI 0), some (vI i), some (vI q), none, none], [vI 1], LAY (u (u (u (u (u (u (u (u (shA A) 8 l8) 9 l9) 10 l10) 11 l11) 75 l75) 76 l76) 77 l77) 78 l78) (u (u (shF F) 14 mg) 15 lo), 0, 0)) hc147 0 rfl trivial ?_
              refine R_if (t := 59) hc147 rfl rfl (fun (_ : ¬ 1 = 0) => ?_) (fun (z : ¬ (¬ 1 = 0)) => absurd (by decide) z)
              refine R_s (P := inI 0 ∧ inI (8 * i) ∧ inI (0 + (8 * i)) ∧ (0 ≤ 0 + (8 * i) ∧ 0 + (8 * i) < ((A 100).length : Int)) ∧ True) (f' := (81, [some (vR 88), some (vI 0), some (vI i), some (vI q), some (vI (0 + (8 * i))), some (vI (rd (A 100) (0 + (8 * i))))], [vI 1, vI q], LAY (u (u (u (u (u (u (u (u (shA A) 8 l8) 9 l9) 10 l10) 11 l11) 75 l75) 76 l76) 77 l77) 78 l78) (u (u (shF F) 14 mg) 15 lo), 0, 0)) hc147 15 rfl ⟨⟨by omega, by omega⟩, ⟨by omega, by omega⟩, ⟨by omega, by omega⟩, ⟨by omega, by omega⟩, trivial⟩ ?_
              refine R_ic (t := 90) hc147 rfl rfl (fun (_ : ¬ q = 1) => ?_) (fun (z : ¬ (¬ q = 1)) => absurd (show ¬ q = 1 by omega) z)
              refine R_s (P := True) (f' := (92, [some (vR 88), some (vI 0), some (vI i), some (vI q), some (vI (0 + (8 * i))), some (vI (rd (A 100) (0 + (8 * i))))], [vI 2, vI q], LAY (u (u (u (u (u (u (u (u (shA A) 8 l8) 9 l9) 10 l10) 11 l11) 75 l75) 76 l76) 77 l77) 78 l78) (u (u (shF F) 14 mg) 15 lo), 0, 0)) hc147 2 rfl trivial ?_
              refine R_ic (t := 107) hc147 rfl rfl (fun (_ : ¬ q = 2) => ?_) (fun (z : ¬ (¬ q = 2)) => absurd (show ¬ q = 2 by omega) z)
              refine R_s (P := True) (f' := (109, [some (vR 88), some (vI 0), some (vI i), some (vI q), some (vI (0 + (8 * i))), some (vI (rd (A 100) (0 + (8 * i))))], [vI 3, vI q], LAY (u (u (u (u (u (u (u (u (shA A) 8 l8) 9 l9) 10 l10) 11 l11) 75 l75) 76 l76) 77 l77) 78 l78) (u (u (shF F) 14 mg) 15 lo), 0, 0)) hc147 2 rfl trivial ?_
              refine R_ic (t := 123) hc147 rfl rfl (fun (_ : ¬ q = 3) => ?_) (fun (z : ¬ (¬ q = 3)) => absurd (show ¬ q = 3 by omega) z)
              refine R_s (P := True) (f' := (125, [some (vR 88), some (vI 0), some (vI i), some (vI q), some (vI (0 + (8 * i))), some (vI (rd (A 100) (0 + (8 * i))))], [vI 4, vI q], LAY (u (u (u (u (u (u (u (u (shA A) 8 l8) 9 l9) 10 l10) 11 l11) 75 l75) 76 l76) 77 l77) 78 l78) (u (u (shF F) 14 mg) 15 lo), 0, 0)) hc147 2 rfl trivial ?_
              refine R_ic (t := 141) hc147 rfl rfl (fun (_ : ¬ q = 4) => ?_) (fun (z : ¬ (¬ q = 4)) => absurd (show ¬ q = 4 by omega) z)
              refine R_s (P := True) (f' := (143, [some (vR 88), some (vI 0), some (vI i), some (vI q), some (vI (0 + (8 * i))), some (vI (rd (A 100) (0 + (8 * i))))], [vI 5, vI q], LAY (u (u (u (u (u (u (u (u (shA A) 8 l8) 9 l9) 10 l10) 11 l11) 75 l75) 76 l76) 77 l77) 78 l78) (u (u (shF F) 14 mg) 15 lo), 0, 0)) hc147 2 rfl trivial ?_
              refine R_ic (t := 166) hc147 rfl rfl (fun (z : ¬ q = 5) => absurd z (by omega)) (fun (_ : ¬ (¬ q = 5)) => ?_)
              refine R_s (P := True) (f' := (148, [some (vR 88), some (vI 0), some (vI i), some (vI q), some (vI (0 + (8 * i))), some (vI (rd (A 100) (0 + (8 * i))))], [vI 0, vR 88], LAY (u (u (u (u (u (u (u (u (shA A) 8 l8) 9 l9) 10 l10) 11 l11) 75 l75) 76 l76) 77 l77) 78 l78) (u (u (shF F) 14 mg) 15 lo), 0, 0)) hc147 2 rfl trivial ?_
              refine R_cv hc147 rfl rfl (l_worksR hR0 (A1 := (u (u (u (u (u (u (u (u (shA A) 8 l8) 9 l9) 10 l10) 11 l11) 75 l75) 76 l76) 77 l77) 78 l78)) (F1 := (u (u (shF F) 14 mg) 15 lo)) rfl rfl rfl rfl rfl rfl rfl rfl rfl rfl rfl rfl rfl (hL 104 (by decide)) (hL 105 (by decide)) (hL 107 (by decide)) (hL 108 (by decide)) (hL 109 (by decide)) (hL 110 (by decide)) (hL 111 (by decide)) hD.1 hD.2 rfl hS) (fun r G9 hp9 => ?_)
              obtain ⟨rfl, l104, l105, l107, l108, l109, l110, l111, ac, rfl, k104, k105, k107, k108, k109, k110, k111, hac, w107, w108⟩ := hp9
              refine R_s (f' := (151, [some (vR 88), some (vI 0), some (vI i), some (vI q), some (vI (0 + (8 * i))), some (vI (rd (A 100) (0 + (8 * i))))], [], LAY (u (u (u (u (u (u (u (u (u (u (u (u (u (u (u (shA A) 8 l8) 9 l9) 10 l10) 11 l11) 75 l75) 76 l76) 77 l77) 78 l78) 109 l109) 104 l104) 105 l105) 110 l110) 111 l111) 108 l108) 107 l107) (u (u (u (u (u (u (shF F) 14 mg) 15 lo) 28 (N_Y A F 0)) 29 ac) 30 mg) 31 lo), 0, 0)) hc147 0 rfl trivial ?_
              refine R_s (P := True) (f' := (154, [some (vR 88), some (vI 0), some (vI i), some (vI q), some (vI (0 + (8 * i))), some (vI (rd (A 100) (0 + (8 * i))))], [vI (0 + (8 * i)), vR 88], LAY (u (u (u (u (u (u (u (u (u (u (u (u (u (u (u (shA A) 8 l8) 9 l9) 10 l10) 11 l11) 75 l75) 76 l76) 77 l77) 78 l78) 109 l109) 104 l104) 105 l105) 110 l110) 111 l111) 108 l108) 107 l107) (u (u (u (u (u (u (shF F) 14 mg) 15 lo) 28 (N_Y A F 0)) 29 ac) 30 mg) 31 lo), 0, 0)) hc147 2 rfl trivial ?_
              refine R_cv hc147 rfl rfl (l_isSo (A := (u (u (u (u (u (u (u (u (u (u (u (u (u (u (u (shA A) 8 l8) 9 l9) 10 l10) 11 l11) 75 l75) 76 l76) 77 l77) 78 l78) 109 l109) 104 l104) 105 l105) 110 l110) 111 l111) 108 l108) 107 l107)) (F := (u (u (u (u (u (u (shF F) 14 mg) 15 lo) 28 (N_Y A F 0)) 29 ac) 30 mg) 31 lo)) (n := (F 3).toNat) (R_n hR0) (R_n30 hR0) hD.1 hD.2 (i := i.toNat) (yr := F 2) (Y := N_Y A F 0) (ac := ac) (by omega) (by omega) rfl rfl rfl) (fun r G9 hp9 => ?_)
              obtain ⟨e1, rfl⟩ := hp9
              have q5 : S_so (F 2) (N_Y A F 0) ac (N_Q A 21) i.toNat = so i.toNat := by rw [hS.1, hac]; rfl
              have q6 := S_so_01 (yr := F 2) (Y := N_Y A F 0) (ac := ac) (Q := N_Q A 21) i.toNat
              rw [q5] at e1 q6
              subst e1
              refine R_s (f' := (157, [some (vR 88), some (vI 0), some (vI i), some (vI q), some (vI (0 + (8 * i))), some (vI (rd (A 100) (0 + (8 * i))))], [vI (so i.toNat)], LAY (u (u (u (u (u (u (u (u (u (u (u (u (u (u (u (shA A) 8 l8) 9 l9) 10 l10) 11 l11) 75 l75) 76 l76) 77 l77) 78 l78) 109 l109) 104 l104) 105 l105) 110 l110) 111 l111) 108 l108) 107 l107) (u (u (u (u (u (u (shF F) 14 mg) 15 lo) 28 (N_Y A F 0)) 29 ac) 30 mg) 31 lo), 0, 0)) hc147 0 rfl trivial ?_
              refine R_if (t := 164) hc147 rfl rfl (fun (c140 : so i.toNat = 0) => ?_) (fun (c140 : ¬ (so i.toNat = 0)) => ?_)
              · refine R_s (P := True) (f' := (165, [some (vR 88), some (vI 0), some (vI i), some (vI q), some (vI (0 + (8 * i))), some (vI (rd (A 100) (0 + (8 * i))))], [vI 0], LAY (u (u (u (u (u (u (u (u (u (u (u (u (u (u (u (shA A) 8 l8) 9 l9) 10 l10) 11 l11) 75 l75) 76 l76) 77 l77) 78 l78) 109 l109) 104 l104) 105 l105) 110 l110) 111 l111) 108 l108) 107 l107) (u (u (u (u (u (u (shF F) 14 mg) 15 lo) 28 (N_Y A F 0)) 29 ac) 30 mg) 31 lo), 0, 0)) hc147 1 rfl trivial ?_
                refine R_reti hc147 rfl rfl ?_
                first
                  | (exfalso; omega; done)
                  | exact ⟨rfl, (u (u (u (u (u (u (u (u (u (u (u (u (u (u (u A 8 l8) 9 l9) 10 l10) 11 l11) 75 l75) 76 l76) 77 l77) 78 l78) 109 l109) 104 l104) 105 l105) 110 l110) 111 l111) 108 l108) 107 l107), (u (u (u (u (u (u F 14 mg) 15 lo) 28 (N_Y A F 0)) 29 ac) 30 mg) 31 lo), rfl, rfl, ⟨(LENS_u (LENS_u (LENS_u (LENS_u (LENS_u (LENS_u (LENS_u (LENS_u (LENS_u (LENS_u (LENS_u (LENS_u (LENS_u (LENS_u (LENS_u hL (by show (l8).length = (A 8).length; rw [k8, hL 8 (by decide)]; rfl)) (by show (l9).length = (A 9).length; rw [k9, hL 9 (by decide)]; rfl)) (by show (l10).length = (A 10).length; rw [k10, hL 10 (by decide)]; rfl)) (by show (l11).length = (A 11).length; rw [k11, hL 11 (by decide)]; rfl)) (by show (l75).length = (A 75).length; rw [k75, hL 75 (by decide)]; rfl)) (by show (l76).length = (A 76).length; rw [k76, hL 76 (by decide)]; rfl)) (by show (l77).length = (A 77).length; rw [k77, hL 77 (by decide)]; rfl)) (by show (l78).length = (A 78).length; rw [k78, hL 78 (by decide)]; rfl)) (by show (l109).length = (A 109).length; rw [k109, hL 109 (by decide)]; rfl)) (by show (l104).length = (A 104).length; rw [k104, hL 104 (by decide)]; rfl)) (by show (l105).length = (A 105).length; rw [k105, hL 105 (by decide)]; rfl)) (by show (l110).length = (A 110).length; rw [k110, hL 110 (by decide)]; rfl)) (by show (l111).length = (A 111).length; rw [k111, hL 111 (by decide)]; rfl)) (by show (l108).length = (A 108).length; rw [k108, hL 108 (by decide)]; rfl)) (by show (l107).length = (A 107).length; rw [k107, hL 107 (by decide)]; rfl)), hR0.2.1, hR0.2.2.1, hR0.2.2.2.1, hR0.2.2.2.2.1, hR0.2.2.2.2.2.1, hR0.2.2.2.2.2.2.1, hR0.2.2.2.2.2.2.2.1, hR0.2.2.2.2.2.2.2.2.1, (REFU_c hR0.2.2.2.2.2.2.2.2.2)⟩⟩
              · refine R_s (P := True) (f' := (165, [some (vR 88), some (vI 0), some (vI i), some (vI q), some (vI (0 + (8 * i))), some (vI (rd (A 100) (0 + (8 * i))))], [vI 1], LAY (u (u (u (u (u (u (u (u (u (u (u (u (u (u (u (shA A) 8 l8) 9 l9) 10 l10) 11 l11) 75 l75) 76 l76) 77 l77) 78 l78) 109 l109) 104 l104) 105 l105) 110 l110) 111 l111) 108 l108) 107 l107) (u (u (u (u (u (u (shF F) 14 mg) 15 lo) 28 (N_Y A F 0)) 29 ac) 30 mg) 31 lo), 0, 0)) hc147 2 rfl trivial ?_
                refine R_reti hc147 rfl rfl ?_
                first
                  | (exfalso; omega; done)
                  | exact ⟨(by rw [show 1 = 0 by omega]), (u (u (u (u (u (u (u (u (u (u (u (u (u (u (u A 8 l8) 9 l9) 10 l10) 11 l11) 75 l75) 76 l76) 77 l77) 78 l78) 109 l109) 104 l104) 105 l105) 110 l110) 111 l111) 108 l108) 107 l107), (u (u (u (u (u (u F 14 mg) 15 lo) 28 (N_Y A F 0)) 29 ac) 30 mg) 31 lo), rfl, rfl, ⟨(LENS_u (LENS_u (LENS_u (LENS_u (LENS_u (LENS_u (LENS_u (LENS_u (LENS_u (LENS_u (LENS_u (LENS_u (LENS_u (LENS_u (LENS_u hL (by show (l8).length = (A 8).length; rw [k8, hL 8 (by decide)]; rfl)) (by show (l9).length = (A 9).length; rw [k9, hL 9 (by decide)]; rfl)) (by show (l10).length = (A 10).length; rw [k10, hL 10 (by decide)]; rfl)) (by show (l11).length = (A 11).length; rw [k11, hL 11 (by decide)]; rfl)) (by show (l75).length = (A 75).length; rw [k75, hL 75 (by decide)]; rfl)) (by show (l76).length = (A 76).length; rw [k76, hL 76 (by decide)]; rfl)) (by show (l77).length = (A 77).length; rw [k77, hL 77 (by decide)]; rfl)) (by show (l78).length = (A 78).length; rw [k78, hL 78 (by decide)]; rfl)) (by show (l109).length = (A 109).length; rw [k109, hL 109 (by decide)]; rfl)) (by show (l104).length = (A 104).length; rw [k104, hL 104 (by decide)]; rfl)) (by show (l105).length = (A 105).length; rw [k105, hL 105 (by decide)]; rfl)) (by show (l110).length = (A 110).length; rw [k110, hL 110 (by decide)]; rfl)) (by show (l111).length = (A 111).length; rw [k111, hL 111 (by decide)]; rfl)) (by show (l108).length = (A 108).length; rw [k108, hL 108 (by decide)]; rfl)) (by show (l107).length = (A 107).length; rw [k107, hL 107 (by decide)]; rfl)), hR0.2.1, hR0.2.2.1, hR0.2.2.2.1, hR0.2.2.2.2.1, hR0.2.2.2.2.2.1, hR0.2.2.2.2.2.2.1, hR0.2.2.2.2.2.2.2.1, hR0.2.2.2.2.2.2.2.2.1, (REFU_c hR0.2.2.2.2.2.2.2.2.2)⟩⟩
            · refine R_s (P := True) (f' := (9, [some (vI (rd l75 i))], [vI 1], LAY (u (u (u (u (u (u (u (u (shA A) 8 l8) 9 l9) 10 l10) 11 l11) 75 l75) 76 l76) 77 l77) 78 l78) (u (u (shF F) 14 mg) 15 lo), 0, 0)) hc95 2 rfl trivial ?_
              refine R_reti hc95 rfl rfl ?_
              refine R_s (f' := (224, [some (vR 1), some (vI 0), some (vI i), some (vI q), some (vR 20), some (vI (rd (A 21) i))], [vI 1], LAY (u (u (u (u (u (u (u (u (shA A) 8 l8) 9 l9) 10 l10) 11 l11) 75 l75) 76 l76) 77 l77) 78 l78) (u (u (shF F) 14 mg) 15 lo), 0, 0)) hc73 0 rfl trivial ?_
              refine R_reti hc73 rfl rfl ?_
              refine R_s (P := True) (f' := (2, [some (vR 88), some (vI 0), some (vI i), some (vI q), none, none], [vI 0, vR 88], LAY (u (u (u (u (u (u (u (u (shA A) 8 l8) 9 l9) 10 l10) 11 l11) 75 l75) 76 l76) 77 l77) 78 l78) (u (u (shF F) 14 mg) 15 lo), 0, 0)) hc147 2 rfl trivial ?_
              refine R_cv hc147 rfl rfl ?_ (fun r G h => h)
              refine R_s (P := inI ((F 0) - 1) ∧ True) (f' := (8, [some (vR 88), some (vI 0)], [vI ((F 0) - 1), vI 0, vI 0], LAY (u (u (u (u (u (u (u (u (shA A) 8 l8) 9 l9) 10 l10) 11 l11) 75 l75) 76 l76) 77 l77) 78 l78) (u (u (shF F) 14 mg) 15 lo), 0, 0)) hc108 6 rfl ⟨⟨by omega, by omega⟩, trivial⟩ ?_
              refine R_cs hc108 rfl rfl ?_ (fun r G h => h)
              refine R_s (P := True) (f' := (2, [some (vI 0), some (vI 0), some (vI ((F 0) - 1))], [vI 0, vI 0], LAY (u (u (u (u (u (u (u (u (shA A) 8 l8) 9 l9) 10 l10) 11 l11) 75 l75) 76 l76) 77 l77) 78 l78) (u (u (shF F) 14 mg) 15 lo), 0, 0)) hc104 2 rfl trivial ?_
              refine R_ic (t := 14) hc104 rfl rfl (fun (z : 0 < 0) => absurd z (by decide)) (fun (_ : ¬ (0 < 0)) => ?_)
              refine R_s (P := True) (f' := (7, [some (vI 0), some (vI 0), some (vI ((F 0) - 1))], [vI ((F 0) - 1), vI 0], LAY (u (u (u (u (u (u (u (u (shA A) 8 l8) 9 l9) 10 l10) 11 l11) 75 l75) 76 l76) 77 l77) 78 l78) (u (u (shF F) 14 mg) 15 lo), 0, 0)) hc104 2 rfl trivial ?_
              refine R_ic (t := 14) hc104 rfl rfl (fun (z : (F 0) - 1 < 0) => absurd z (by omega)) (fun (_ : ¬ ((F 0) - 1 < 0)) => ?_)
              refine R_s (P := True) (f' := (15, [some (vI 0), some (vI 0), some (vI ((F 0) - 1))], [vI 1], LAY (u (u (u (u (u (u (u (u (shA A) 8 l8) 9 l9) 10 l10) 11 l11) 75 l75) 76 l76) 77 l77) 78 l78) (u (u (shF F) 14 mg) 15 lo), 0, 0)) hc104 2 rfl trivial ?_
              refine R_retz hc104 rfl rfl (Or.inr rfl) ?_
              refine R_s (f' := (11, [some (vR 88), some (vI 0)], [vI 1], LAY (u (u (u (u (u (u (u (u (shA A) 8 l8) 9 l9) 10 l10) 11 l11) 75 l75) 76 l76) 77 l77) 78 l78) (u (u (shF F) 14 mg) 15 lo), 0, 0)) hc108 0 rfl trivial ?_
              refine R_retz hc108 rfl rfl (Or.inr rfl) ?_
              refine R_s (f' := (5, [some (vR 88), some (vI 0), some (vI i), some (vI q), none, none], [vI 1], LAY (u (u (u (u (u (u (u (u (shA A) 8 l8) 9 l9) 10 l10) 11 l11) 75 l75) 76 l76) 77 l77) 78 l78) (u (u (shF F) 14 mg) 15 lo), 0, 0)) hc147 0 rfl trivial ?_
              refine R_if (t := 24) hc147 rfl rfl (fun (z : 1 = 0) => absurd z (by decide)) (fun (_ : ¬ (1 = 0)) => ?_)
              refine R_s (P := (0 ≤ 0 ∧ 0 < ((A 99).length : Int)) ∧ inI ((rd (A 99) 0) - 1) ∧ True) (f' := (18, [some (vR 88), some (vI 0), some (vI i), some (vI q), none, none], [vI ((rd (A 99) 0) - 1), vI (-1), vI i], LAY (u (u (u (u (u (u (u (u (shA A) 8 l8) 9 l9) 10 l10) 11 l11) 75 l75) 76 l76) 77 l77) 78 l78) (u (u (shF F) 14 mg) 15 lo), 0, 0)) hc147 8 rfl ⟨⟨by omega, by omega⟩, ⟨by omega, by omega⟩, trivial⟩ ?_
              refine R_cs hc147 rfl rfl ?_ (fun r G h => h)
              refine R_s (P := True) (f' := (2, [some (vI i), some (vI (-1)), some (vI ((rd (A 99) 0) - 1))], [vI (-1), vI i], LAY (u (u (u (u (u (u (u (u (shA A) 8 l8) 9 l9) 10 l10) 11 l11) 75 l75) 76 l76) 77 l77) 78 l78) (u (u (shF F) 14 mg) 15 lo), 0, 0)) hc104 2 rfl trivial ?_
              refine R_ic (t := 14) hc104 rfl rfl (fun (z : i < (-1)) => absurd z (by omega)) (fun (_ : ¬ (i < (-1))) => ?_)
              refine R_s (P := True) (f' := (7, [some (vI i), some (vI (-1)), some (vI ((rd (A 99) 0) - 1))], [vI ((rd (A 99) 0) - 1), vI i], LAY (u (u (u (u (u (u (u (u (shA A) 8 l8) 9 l9) 10 l10) 11 l11) 75 l75) 76 l76) 77 l77) 78 l78) (u (u (shF F) 14 mg) 15 lo), 0, 0)) hc104 2 rfl trivial ?_
              refine R_ic (t := 14) hc104 rfl rfl (fun (z : (rd (A 99) 0) - 1 < i) => absurd z (by omega)) (fun (_ : ¬ ((rd (A 99) 0) - 1 < i)) => ?_)
              refine R_s (P := True) (f' := (15, [some (vI i), some (vI (-1)), some (vI ((rd (A 99) 0) - 1))], [vI 1], LAY (u (u (u (u (u (u (u (u (shA A) 8 l8) 9 l9) 10 l10) 11 l11) 75 l75) 76 l76) 77 l77) 78 l78) (u (u (shF F) 14 mg) 15 lo), 0, 0)) hc104 2 rfl trivial ?_
              refine R_retz hc104 rfl rfl (Or.inr rfl) ?_
              refine R_s (f' := (21, [some (vR 88), some (vI 0), some (vI i), some (vI q), none, none], [vI 1], LAY (u (u (u (u (u (u (u (u (shA A) 8 l8) 9 l9) 10 l10) 11 l11) 75 l75) 76 l76) 77 l77) 78 l78) (u (u (shF F) 14 mg) 15 lo), 0, 0)) hc147 0 rfl trivial ?_
              refine R_if (t := 31) hc147 rfl rfl (fun (_ : ¬ 1 = 0) => ?_) (fun (z : ¬ (¬ 1 = 0)) => absurd (by decide) z)
              refine R_s (P := True) (f' := (33, [some (vR 88), some (vI 0), some (vI i), some (vI q), none, none], [vI (-1), vI i], LAY (u (u (u (u (u (u (u (u (shA A) 8 l8) 9 l9) 10 l10) 11 l11) 75 l75) 76 l76) 77 l77) 78 l78) (u (u (shF F) 14 mg) 15 lo), 0, 0)) hc147 2 rfl trivial ?_
              refine R_ic (t := 43) hc147 rfl rfl (fun (_ : ¬ i = (-1)) => ?_) (fun (z : ¬ (¬ i = (-1))) => absurd (show ¬ i = (-1) by omega) z)
              refine R_s (P := True) (f' := (46, [some (vR 88), some (vI 0), some (vI i), some (vI q), none, none], [vI 5, vI 0, vI q], LAY (u (u (u (u (u (u (u (u (shA A) 8 l8) 9 l9) 10 l10) 11 l11) 75 l75) 76 l76) 77 l77) 78 l78) (u (u (shF F) 14 mg) 15 lo), 0, 0)) hc147 3 rfl trivial ?_
              refine R_cs hc147 rfl rfl ?_ (fun r G h => h)
              refine R_s (P := True) (f' := (2, [some (vI q), some (vI 0), some (vI 5)], [vI 0, vI q], LAY (u (u (u (u (u (u (u (u (shA A) 8 l8) 9 l9) 10 l10) 11 l11) 75 l75) 76 l76) 77 l77) 78 l78) (u (u (shF F) 14 mg) 15 lo), 0, 0)) hc104 2 rfl trivial ?_
              refine R_ic (t := 14) hc104 rfl rfl (fun (z : q < 0) => absurd z (by omega)) (fun (_ : ¬ (q < 0)) => ?_)
              refine R_s (P := True) (f' := (7, [some (vI q), some (vI 0), some (vI 5)], [vI 5, vI q], LAY (u (u (u (u (u (u (u (u (shA A) 8 l8) 9 l9) 10 l10) 11 l11) 75 l75) 76 l76) 77 l77) 78 l78) (u (u (shF F) 14 mg) 15 lo), 0, 0)) hc104 2 rfl trivial ?_
              refine R_ic (t := 14) hc104 rfl rfl (fun (z : 5 < q) => absurd z (by omega)) (fun (_ : ¬ (5 < q)) => ?_)
              refine R_s (P := True) (f' := (15, [some (vI q), some (vI 0), some (vI 5)], [vI 1], LAY (u (u (u (u (u (u (u (u (shA A) 8 l8) 9 l9) 10 l10) 11 l11) 75 l75) 76 l76) 77 l77) 78 l78) (u (u (shF F) 14 mg) 15 lo), 0, 0)) hc104 2 rfl trivial ?_
              refine R_retz hc104 rfl rfl (Or.inr rfl) ?_
              refine R_s (f' := (49, [some (vR 88), some (vI 0), some (vI i), some (vI q), none, none], [vI 1], LAY (u (u (u (u (u (u (u (u (shA A) 8 l8) 9 l9) 10 l10) 11 l11) 75 l75) 76 l76) 77 l77) 78 l78) (u (u (shF F) 14 mg) 15 lo), 0, 0)) hc147 0 rfl trivial ?_
              refine R_if (t := 59) hc147 rfl rfl (fun (_ : ¬ 1 = 0) => ?_) (fun (z : ¬ (¬ 1 = 0)) => absurd (by decide) z)
              refine R_s (P := inI 0 ∧ inI (8 * i) ∧ inI (0 + (8 * i)) ∧ (0 ≤ 0 + (8 * i) ∧ 0 + (8 * i) < ((A 100).length : Int)) ∧ True) (f' := (81, [some (vR 88), some (vI 0), some (vI i), some (vI q), some (vI (0 + (8 * i))), some (vI (rd (A 100) (0 + (8 * i))))], [vI 1, vI q], LAY (u (u (u (u (u (u (u (u (shA A) 8 l8) 9 l9) 10 l10) 11 l11) 75 l75) 76 l76) 77 l77) 78 l78) (u (u (shF F) 14 mg) 15 lo), 0, 0)) hc147 15 rfl ⟨⟨by omega, by omega⟩, ⟨by omega, by omega⟩, ⟨by omega, by omega⟩, ⟨by omega, by omega⟩, trivial⟩ ?_
              refine R_ic (t := 90) hc147 rfl rfl (fun (_ : ¬ q = 1) => ?_) (fun (z : ¬ (¬ q = 1)) => absurd (show ¬ q = 1 by omega) z)
              refine R_s (P := True) (f' := (92, [some (vR 88), some (vI 0), some (vI i), some (vI q), some (vI (0 + (8 * i))), some (vI (rd (A 100) (0 + (8 * i))))], [vI 2, vI q], LAY (u (u (u (u (u (u (u (u (shA A) 8 l8) 9 l9) 10 l10) 11 l11) 75 l75) 76 l76) 77 l77) 78 l78) (u (u (shF F) 14 mg) 15 lo), 0, 0)) hc147 2 rfl trivial ?_
              refine R_ic (t := 107) hc147 rfl rfl (fun (_ : ¬ q = 2) => ?_) (fun (z : ¬ (¬ q = 2)) => absurd (show ¬ q = 2 by omega) z)
              refine R_s (P := True) (f' := (109, [some (vR 88), some (vI 0), some (vI i), some (vI q), some (vI (0 + (8 * i))), some (vI (rd (A 100) (0 + (8 * i))))], [vI 3, vI q], LAY (u (u (u (u (u (u (u (u (shA A) 8 l8) 9 l9) 10 l10) 11 l11) 75 l75) 76 l76) 77 l77) 78 l78) (u (u (shF F) 14 mg) 15 lo), 0, 0)) hc147 2 rfl trivial ?_
              refine R_ic (t := 123) hc147 rfl rfl (fun (_ : ¬ q = 3) => ?_) (fun (z : ¬ (¬ q = 3)) => absurd (show ¬ q = 3 by omega) z)
              refine R_s (P := True) (f' := (125, [some (vR 88), some (vI 0), some (vI i), some (vI q), some (vI (0 + (8 * i))), some (vI (rd (A 100) (0 + (8 * i))))], [vI 4, vI q], LAY (u (u (u (u (u (u (u (u (shA A) 8 l8) 9 l9) 10 l10) 11 l11) 75 l75) 76 l76) 77 l77) 78 l78) (u (u (shF F) 14 mg) 15 lo), 0, 0)) hc147 2 rfl trivial ?_
              refine R_ic (t := 141) hc147 rfl rfl (fun (_ : ¬ q = 4) => ?_) (fun (z : ¬ (¬ q = 4)) => absurd (show ¬ q = 4 by omega) z)
              refine R_s (P := True) (f' := (143, [some (vR 88), some (vI 0), some (vI i), some (vI q), some (vI (0 + (8 * i))), some (vI (rd (A 100) (0 + (8 * i))))], [vI 5, vI q], LAY (u (u (u (u (u (u (u (u (shA A) 8 l8) 9 l9) 10 l10) 11 l11) 75 l75) 76 l76) 77 l77) 78 l78) (u (u (shF F) 14 mg) 15 lo), 0, 0)) hc147 2 rfl trivial ?_
              refine R_ic (t := 166) hc147 rfl rfl (fun (z : ¬ q = 5) => absurd z (by omega)) (fun (_ : ¬ (¬ q = 5)) => ?_)
              refine R_s (P := True) (f' := (148, [some (vR 88), some (vI 0), some (vI i), some (vI q), some (vI (0 + (8 * i))), some (vI (rd (A 100) (0 + (8 * i))))], [vI 0, vR 88], LAY (u (u (u (u (u (u (u (u (shA A) 8 l8) 9 l9) 10 l10) 11 l11) 75 l75) 76 l76) 77 l77) 78 l78) (u (u (shF F) 14 mg) 15 lo), 0, 0)) hc147 2 rfl trivial ?_
              refine R_cv hc147 rfl rfl (l_worksR hR0 (A1 := (u (u (u (u (u (u (u (u (shA A) 8 l8) 9 l9) 10 l10) 11 l11) 75 l75) 76 l76) 77 l77) 78 l78)) (F1 := (u (u (shF F) 14 mg) 15 lo)) rfl rfl rfl rfl rfl rfl rfl rfl rfl rfl rfl rfl rfl (hL 104 (by decide)) (hL 105 (by decide)) (hL 107 (by decide)) (hL 108 (by decide)) (hL 109 (by decide)) (hL 110 (by decide)) (hL 111 (by decide)) hD.1 hD.2 rfl hS) (fun r G9 hp9 => ?_)
              obtain ⟨rfl, l104, l105, l107, l108, l109, l110, l111, ac, rfl, k104, k105, k107, k108, k109, k110, k111, hac, w107, w108⟩ := hp9
              refine R_s (f' := (151, [some (vR 88), some (vI 0), some (vI i), some (vI q), some (vI (0 + (8 * i))), some (vI (rd (A 100) (0 + (8 * i))))], [], LAY (u (u (u (u (u (u (u (u (u (u (u (u (u (u (u (shA A) 8 l8) 9 l9) 10 l10) 11 l11) 75 l75) 76 l76) 77 l77) 78 l78) 109 l109) 104 l104) 105 l105) 110 l110) 111 l111) 108 l108) 107 l107) (u (u (u (u (u (u (shF F) 14 mg) 15 lo) 28 (N_Y A F 0)) 29 ac) 30 mg) 31 lo), 0, 0)) hc147 0 rfl trivial ?_
              refine R_s (P := True) (f' := (154, [some (vR 88), some (vI 0), some (vI i), some (vI q), some (vI (0 + (8 * i))), some (vI (rd (A 100) (0 + (8 * i))))], [vI (0 + (8 * i)), vR 88], LAY (u (u (u (u (u (u (u (u (u (u (u (u (u (u (u (shA A) 8 l8) 9 l9) 10 l10) 11 l11) 75 l75) 76 l76) 77 l77) 78 l78) 109 l109) 104 l104) 105 l105) 110 l110) 111 l111) 108 l108) 107 l107) (u (u (u (u (u (u (shF F) 14 mg) 15 lo) 28 (N_Y A F 0)) 29 ac) 30 mg) 31 lo), 0, 0)) hc147 2 rfl trivial ?_
              refine R_cv hc147 rfl rfl (l_isSo (A := (u (u (u (u (u (u (u (u (u (u (u (u (u (u (u (shA A) 8 l8) 9 l9) 10 l10) 11 l11) 75 l75) 76 l76) 77 l77) 78 l78) 109 l109) 104 l104) 105 l105) 110 l110) 111 l111) 108 l108) 107 l107)) (F := (u (u (u (u (u (u (shF F) 14 mg) 15 lo) 28 (N_Y A F 0)) 29 ac) 30 mg) 31 lo)) (n := (F 3).toNat) (R_n hR0) (R_n30 hR0) hD.1 hD.2 (i := i.toNat) (yr := F 2) (Y := N_Y A F 0) (ac := ac) (by omega) (by omega) rfl rfl rfl) (fun r G9 hp9 => ?_)
              obtain ⟨e1, rfl⟩ := hp9
              have q5 : S_so (F 2) (N_Y A F 0) ac (N_Q A 21) i.toNat = so i.toNat := by rw [hS.1, hac]; rfl
              have q6 := S_so_01 (yr := F 2) (Y := N_Y A F 0) (ac := ac) (Q := N_Q A 21) i.toNat
              rw [q5] at e1 q6
              subst e1
              refine R_s (f' := (157, [some (vR 88), some (vI 0), some (vI i), some (vI q), some (vI (0 + (8 * i))), some (vI (rd (A 100) (0 + (8 * i))))], [vI (so i.toNat)], LAY (u (u (u (u (u (u (u (u (u (u (u (u (u (u (u (shA A) 8 l8) 9 l9) 10 l10) 11 l11) 75 l75) 76 l76) 77 l77) 78 l78) 109 l109) 104 l104) 105 l105) 110 l110) 111 l111) 108 l108) 107 l107) (u (u (u (u (u (u (shF F) 14 mg) 15 lo) 28 (N_Y A F 0)) 29 ac) 30 mg) 31 lo), 0, 0)) hc147 0 rfl trivial ?_
              refine R_if (t := 164) hc147 rfl rfl (fun (c140 : so i.toNat = 0) => ?_) (fun (c140 : ¬ (so i.toNat = 0)) => ?_)
              · refine R_s (P := True) (f' := (165, [some (vR 88), some (vI 0), some (vI i), some (vI q), some (vI (0 + (8 * i))), some (vI (rd (A 100) (0 + (8 * i))))], [vI 0], LAY (u (u (u (u (u (u (u (u (u (u (u (u (u (u (u (shA A) 8 l8) 9 l9) 10 l10) 11 l11) 75 l75) 76 l76) 77 l77) 78 l78) 109 l109) 104 l104) 105 l105) 110 l110) 111 l111) 108 l108) 107 l107) (u (u (u (u (u (u (shF F) 14 mg) 15 lo) 28 (N_Y A F 0)) 29 ac) 30 mg) 31 lo), 0, 0)) hc147 1 rfl trivial ?_
                refine R_reti hc147 rfl rfl ?_
                first
                  | (exfalso; omega; done)
                  | exact ⟨(by rw [show 0 = 1 by omega]), (u (u (u (u (u (u (u (u (u (u (u (u (u (u (u A 8 l8) 9 l9) 10 l10) 11 l11) 75 l75) 76 l76) 77 l77) 78 l78) 109 l109) 104 l104) 105 l105) 110 l110) 111 l111) 108 l108) 107 l107), (u (u (u (u (u (u F 14 mg) 15 lo) 28 (N_Y A F 0)) 29 ac) 30 mg) 31 lo), rfl, rfl, ⟨(LENS_u (LENS_u (LENS_u (LENS_u (LENS_u (LENS_u (LENS_u (LENS_u (LENS_u (LENS_u (LENS_u (LENS_u (LENS_u (LENS_u (LENS_u hL (by show (l8).length = (A 8).length; rw [k8, hL 8 (by decide)]; rfl)) (by show (l9).length = (A 9).length; rw [k9, hL 9 (by decide)]; rfl)) (by show (l10).length = (A 10).length; rw [k10, hL 10 (by decide)]; rfl)) (by show (l11).length = (A 11).length; rw [k11, hL 11 (by decide)]; rfl)) (by show (l75).length = (A 75).length; rw [k75, hL 75 (by decide)]; rfl)) (by show (l76).length = (A 76).length; rw [k76, hL 76 (by decide)]; rfl)) (by show (l77).length = (A 77).length; rw [k77, hL 77 (by decide)]; rfl)) (by show (l78).length = (A 78).length; rw [k78, hL 78 (by decide)]; rfl)) (by show (l109).length = (A 109).length; rw [k109, hL 109 (by decide)]; rfl)) (by show (l104).length = (A 104).length; rw [k104, hL 104 (by decide)]; rfl)) (by show (l105).length = (A 105).length; rw [k105, hL 105 (by decide)]; rfl)) (by show (l110).length = (A 110).length; rw [k110, hL 110 (by decide)]; rfl)) (by show (l111).length = (A 111).length; rw [k111, hL 111 (by decide)]; rfl)) (by show (l108).length = (A 108).length; rw [k108, hL 108 (by decide)]; rfl)) (by show (l107).length = (A 107).length; rw [k107, hL 107 (by decide)]; rfl)), hR0.2.1, hR0.2.2.1, hR0.2.2.2.1, hR0.2.2.2.2.1, hR0.2.2.2.2.2.1, hR0.2.2.2.2.2.2.1, hR0.2.2.2.2.2.2.2.1, hR0.2.2.2.2.2.2.2.2.1, (REFU_c hR0.2.2.2.2.2.2.2.2.2)⟩⟩
              · refine R_s (P := True) (f' := (165, [some (vR 88), some (vI 0), some (vI i), some (vI q), some (vI (0 + (8 * i))), some (vI (rd (A 100) (0 + (8 * i))))], [vI 1], LAY (u (u (u (u (u (u (u (u (u (u (u (u (u (u (u (shA A) 8 l8) 9 l9) 10 l10) 11 l11) 75 l75) 76 l76) 77 l77) 78 l78) 109 l109) 104 l104) 105 l105) 110 l110) 111 l111) 108 l108) 107 l107) (u (u (u (u (u (u (shF F) 14 mg) 15 lo) 28 (N_Y A F 0)) 29 ac) 30 mg) 31 lo), 0, 0)) hc147 2 rfl trivial ?_
                refine R_reti hc147 rfl rfl ?_
                first
                  | (exfalso; omega; done)
                  | exact ⟨rfl, (u (u (u (u (u (u (u (u (u (u (u (u (u (u (u A 8 l8) 9 l9) 10 l10) 11 l11) 75 l75) 76 l76) 77 l77) 78 l78) 109 l109) 104 l104) 105 l105) 110 l110) 111 l111) 108 l108) 107 l107), (u (u (u (u (u (u F 14 mg) 15 lo) 28 (N_Y A F 0)) 29 ac) 30 mg) 31 lo), rfl, rfl, ⟨(LENS_u (LENS_u (LENS_u (LENS_u (LENS_u (LENS_u (LENS_u (LENS_u (LENS_u (LENS_u (LENS_u (LENS_u (LENS_u (LENS_u (LENS_u hL (by show (l8).length = (A 8).length; rw [k8, hL 8 (by decide)]; rfl)) (by show (l9).length = (A 9).length; rw [k9, hL 9 (by decide)]; rfl)) (by show (l10).length = (A 10).length; rw [k10, hL 10 (by decide)]; rfl)) (by show (l11).length = (A 11).length; rw [k11, hL 11 (by decide)]; rfl)) (by show (l75).length = (A 75).length; rw [k75, hL 75 (by decide)]; rfl)) (by show (l76).length = (A 76).length; rw [k76, hL 76 (by decide)]; rfl)) (by show (l77).length = (A 77).length; rw [k77, hL 77 (by decide)]; rfl)) (by show (l78).length = (A 78).length; rw [k78, hL 78 (by decide)]; rfl)) (by show (l109).length = (A 109).length; rw [k109, hL 109 (by decide)]; rfl)) (by show (l104).length = (A 104).length; rw [k104, hL 104 (by decide)]; rfl)) (by show (l105).length = (A 105).length; rw [k105, hL 105 (by decide)]; rfl)) (by show (l110).length = (A 110).length; rw [k110, hL 110 (by decide)]; rfl)) (by show (l111).length = (A 111).length; rw [k111, hL 111 (by decide)]; rfl)) (by show (l108).length = (A 108).length; rw [k108, hL 108 (by decide)]; rfl)) (by show (l107).length = (A 107).length; rw [k107, hL 107 (by decide)]; rfl)), hR0.2.1, hR0.2.2.1, hR0.2.2.2.1, hR0.2.2.2.2.1, hR0.2.2.2.2.2.1, hR0.2.2.2.2.2.2.1, hR0.2.2.2.2.2.2.2.1, hR0.2.2.2.2.2.2.2.2.1, (REFU_c hR0.2.2.2.2.2.2.2.2.2)⟩⟩
          | isw + 6, hio, c8 => exact absurd hio (by simp)
        · rcases c8 with c8 | c8
          · refine R_s (P := True) (f' := (228, [some (vR 1), some (vI 0), some (vI i), some (vI q), some (vR 20), some (vI (rd (A 21) i))], [vI (-7), vR 1], LAY (shA A) (shF F), 0, 0)) hc73 2 rfl trivial ?_
            refine R_cv hc73 rfl rfl ?_ (fun r G h => h)
            refine R_s (P := True) (f' := (3, [some (vR 1), some (vI (-7))], [vI (-2), vI (-7)], LAY (shA A) (shF F), 0, 0)) hc93 2 rfl trivial ?_
            refine R_ic (t := 23) hc93 rfl rfl (fun (z : (-2) < (-7)) => absurd z (by decide)) (fun (_ : ¬ ((-2) < (-7))) => ?_)
            refine R_s (P := True) (f' := (9, [some (vR 1), some (vI (-7))], [vI (-8), vI (-7)], LAY (shA A) (shF F), 0, 0)) hc93 2 rfl trivial ?_
            refine R_ic (t := 23) hc93 rfl rfl (fun (z : (-7) < (-8)) => absurd z (by decide)) (fun (_ : ¬ ((-7) < (-8))) => ?_)
            refine R_s (P := inI 7 ∧ (0 ≤ 7 ∧ 7 < ((A 87).length : Int)) ∧ inI ((rd (A 87) 7) + 1) ∧ (0 ≤ 7 ∧ 7 < ((A 87).length : Int)) ∧ True) (f' := (24, [some (vR 1), some (vI (-7))], [vI (-7)], LAY (u (shA A) 87 (wr (A 87) 7 ((rd (A 87) 7) + 1))) (shF F), 0, 0)) hc93 10 rfl ⟨⟨by omega, by omega⟩, ⟨by omega, by omega⟩, ⟨by omega, by omega⟩, ⟨by omega, by omega⟩, trivial⟩ ?_
            refine R_reti hc93 rfl rfl ?_
            refine R_s (f' := (231, [some (vR 1), some (vI 0), some (vI i), some (vI q), some (vR 20), some (vI (rd (A 21) i))], [vI (-7)], LAY (u (shA A) 87 (wr (A 87) 7 ((rd (A 87) 7) + 1))) (shF F), 0, 0)) hc73 0 rfl trivial ?_
            refine R_reti hc73 rfl rfl ?_
            refine R_s (P := True) (f' := (2, [some (vR 88), some (vI 0), some (vI i), some (vI q), none, none], [vI 0, vR 88], LAY (u (shA A) 87 (wr (A 87) 7 ((rd (A 87) 7) + 1))) (shF F), 0, 0)) hc147 2 rfl trivial ?_
            refine R_cv hc147 rfl rfl ?_ (fun r G h => h)
            refine R_s (P := inI ((F 0) - 1) ∧ True) (f' := (8, [some (vR 88), some (vI 0)], [vI ((F 0) - 1), vI 0, vI 0], LAY (u (shA A) 87 (wr (A 87) 7 ((rd (A 87) 7) + 1))) (shF F), 0, 0)) hc108 6 rfl ⟨⟨by omega, by omega⟩, trivial⟩ ?_
            refine R_cs hc108 rfl rfl ?_ (fun r G h => h)
            refine R_s (P := True) (f' := (2, [some (vI 0), some (vI 0), some (vI ((F 0) - 1))], [vI 0, vI 0], LAY (u (shA A) 87 (wr (A 87) 7 ((rd (A 87) 7) + 1))) (shF F), 0, 0)) hc104 2 rfl trivial ?_
            refine R_ic (t := 14) hc104 rfl rfl (fun (z : 0 < 0) => absurd z (by decide)) (fun (_ : ¬ (0 < 0)) => ?_)
            refine R_s (P := True) (f' := (7, [some (vI 0), some (vI 0), some (vI ((F 0) - 1))], [vI ((F 0) - 1), vI 0], LAY (u (shA A) 87 (wr (A 87) 7 ((rd (A 87) 7) + 1))) (shF F), 0, 0)) hc104 2 rfl trivial ?_
            refine R_ic (t := 14) hc104 rfl rfl (fun (z : (F 0) - 1 < 0) => absurd z (by omega)) (fun (_ : ¬ ((F 0) - 1 < 0)) => ?_)
            refine R_s (P := True) (f' := (15, [some (vI 0), some (vI 0), some (vI ((F 0) - 1))], [vI 1], LAY (u (shA A) 87 (wr (A 87) 7 ((rd (A 87) 7) + 1))) (shF F), 0, 0)) hc104 2 rfl trivial ?_
            refine R_retz hc104 rfl rfl (Or.inr rfl) ?_
            refine R_s (f' := (11, [some (vR 88), some (vI 0)], [vI 1], LAY (u (shA A) 87 (wr (A 87) 7 ((rd (A 87) 7) + 1))) (shF F), 0, 0)) hc108 0 rfl trivial ?_
            refine R_retz hc108 rfl rfl (Or.inr rfl) ?_
            refine R_s (f' := (5, [some (vR 88), some (vI 0), some (vI i), some (vI q), none, none], [vI 1], LAY (u (shA A) 87 (wr (A 87) 7 ((rd (A 87) 7) + 1))) (shF F), 0, 0)) hc147 0 rfl trivial ?_
            refine R_if (t := 24) hc147 rfl rfl (fun (z : 1 = 0) => absurd z (by decide)) (fun (_ : ¬ (1 = 0)) => ?_)
            refine R_s (P := (0 ≤ 0 ∧ 0 < ((A 99).length : Int)) ∧ inI ((rd (A 99) 0) - 1) ∧ True) (f' := (18, [some (vR 88), some (vI 0), some (vI i), some (vI q), none, none], [vI ((rd (A 99) 0) - 1), vI (-1), vI i], LAY (u (shA A) 87 (wr (A 87) 7 ((rd (A 87) 7) + 1))) (shF F), 0, 0)) hc147 8 rfl ⟨⟨by omega, by omega⟩, ⟨by omega, by omega⟩, trivial⟩ ?_
            refine R_cs hc147 rfl rfl ?_ (fun r G h => h)
            refine R_s (P := True) (f' := (2, [some (vI i), some (vI (-1)), some (vI ((rd (A 99) 0) - 1))], [vI (-1), vI i], LAY (u (shA A) 87 (wr (A 87) 7 ((rd (A 87) 7) + 1))) (shF F), 0, 0)) hc104 2 rfl trivial ?_
            refine R_ic (t := 14) hc104 rfl rfl (fun (z : i < (-1)) => absurd z (by omega)) (fun (_ : ¬ (i < (-1))) => ?_)
            refine R_s (P := True) (f' := (7, [some (vI i), some (vI (-1)), some (vI ((rd (A 99) 0) - 1))], [vI ((rd (A 99) 0) - 1), vI i], LAY (u (shA A) 87 (wr (A 87) 7 ((rd (A 87) 7) + 1))) (shF F), 0, 0)) hc104 2 rfl trivial ?_
            refine R_ic (t := 14) hc104 rfl rfl (fun (z : (rd (A 99) 0) - 1 < i) => absurd z (by omega)) (fun (_ : ¬ ((rd (A 99) 0) - 1 < i)) => ?_)
            refine R_s (P := True) (f' := (15, [some (vI i), some (vI (-1)), some (vI ((rd (A 99) 0) - 1))], [vI 1], LAY (u (shA A) 87 (wr (A 87) 7 ((rd (A 87) 7) + 1))) (shF F), 0, 0)) hc104 2 rfl trivial ?_
            refine R_retz hc104 rfl rfl (Or.inr rfl) ?_
            refine R_s (f' := (21, [some (vR 88), some (vI 0), some (vI i), some (vI q), none, none], [vI 1], LAY (u (shA A) 87 (wr (A 87) 7 ((rd (A 87) 7) + 1))) (shF F), 0, 0)) hc147 0 rfl trivial ?_
            refine R_if (t := 31) hc147 rfl rfl (fun (_ : ¬ 1 = 0) => ?_) (fun (z : ¬ (¬ 1 = 0)) => absurd (by decide) z)
            refine R_s (P := True) (f' := (33, [some (vR 88), some (vI 0), some (vI i), some (vI q), none, none], [vI (-1), vI i], LAY (u (shA A) 87 (wr (A 87) 7 ((rd (A 87) 7) + 1))) (shF F), 0, 0)) hc147 2 rfl trivial ?_
            refine R_ic (t := 43) hc147 rfl rfl (fun (_ : ¬ i = (-1)) => ?_) (fun (z : ¬ (¬ i = (-1))) => absurd (show ¬ i = (-1) by omega) z)
            refine R_s (P := True) (f' := (46, [some (vR 88), some (vI 0), some (vI i), some (vI q), none, none], [vI 5, vI 0, vI q], LAY (u (shA A) 87 (wr (A 87) 7 ((rd (A 87) 7) + 1))) (shF F), 0, 0)) hc147 3 rfl trivial ?_
            refine R_cs hc147 rfl rfl ?_ (fun r G h => h)
            refine R_s (P := True) (f' := (2, [some (vI q), some (vI 0), some (vI 5)], [vI 0, vI q], LAY (u (shA A) 87 (wr (A 87) 7 ((rd (A 87) 7) + 1))) (shF F), 0, 0)) hc104 2 rfl trivial ?_
            refine R_ic (t := 14) hc104 rfl rfl (fun (_ : q < 0) => ?_) (fun (z : ¬ (q < 0)) => absurd (show q < 0 by omega) z)
            refine R_s (P := True) (f' := (15, [some (vI q), some (vI 0), some (vI 5)], [vI 0], LAY (u (shA A) 87 (wr (A 87) 7 ((rd (A 87) 7) + 1))) (shF F), 0, 0)) hc104 1 rfl trivial ?_
            refine R_retz hc104 rfl rfl (Or.inl rfl) ?_
            refine R_s (f' := (49, [some (vR 88), some (vI 0), some (vI i), some (vI q), none, none], [vI 0], LAY (u (shA A) 87 (wr (A 87) 7 ((rd (A 87) 7) + 1))) (shF F), 0, 0)) hc147 0 rfl trivial ?_
            refine R_if (t := 59) hc147 rfl rfl (fun (z : ¬ 0 = 0) => absurd z (by decide)) (fun (_ : ¬ (¬ 0 = 0)) => ?_)
            refine R_s (P := True) (f' := (55, [some (vR 88), some (vI 0), some (vI i), some (vI q), none, none], [vI (-7), vR 88], LAY (u (shA A) 87 (wr (A 87) 7 ((rd (A 87) 7) + 1))) (shF F), 0, 0)) hc147 2 rfl trivial ?_
            refine R_cv hc147 rfl rfl ?_ (fun r G h => h)
            refine R_s (P := inI 7 ∧ (0 ≤ 7 ∧ 7 < ((A 87).length : Int)) ∧ inI ((rd (A 87) 7) + 1) ∧ (0 ≤ 7 ∧ 7 < ((A 87).length : Int)) ∧ True) (f' := (12, [some (vR 88), some (vI (-7))], [vI (-7)], LAY (u (u (shA A) 87 (wr (A 87) 7 ((rd (A 87) 7) + 1))) 89 (wr (A 87) 7 ((rd (A 87) 7) + 1))) (shF F), 0, 0)) hc105 10 rfl ⟨⟨by omega, by omega⟩, ⟨by omega, by omega⟩, ⟨by omega, by omega⟩, ⟨by omega, by omega⟩, trivial⟩ ?_
            refine R_reti hc105 rfl rfl ?_
            refine R_s (f' := (58, [some (vR 88), some (vI 0), some (vI i), some (vI q), none, none], [vI (-7)], LAY (u (u (shA A) 87 (wr (A 87) 7 ((rd (A 87) 7) + 1))) 89 (wr (A 87) 7 ((rd (A 87) 7) + 1))) (shF F), 0, 0)) hc147 0 rfl trivial ?_
            refine R_reti hc147 rfl rfl ?_
            first
              | (exfalso; omega; done)
              | exact ⟨rfl, (u A 87 (wr (A 87) 7 ((rd (A 87) 7) + 1))), F, rfl, rfl, REL_ref hR0 (by decide) (by decide)⟩
          · refine R_s (P := True) (f' := (228, [some (vR 1), some (vI 0), some (vI i), some (vI q), some (vR 20), some (vI (rd (A 21) i))], [vI (-7), vR 1], LAY (shA A) (shF F), 0, 0)) hc73 2 rfl trivial ?_
            refine R_cv hc73 rfl rfl ?_ (fun r G h => h)
            refine R_s (P := True) (f' := (3, [some (vR 1), some (vI (-7))], [vI (-2), vI (-7)], LAY (shA A) (shF F), 0, 0)) hc93 2 rfl trivial ?_
            refine R_ic (t := 23) hc93 rfl rfl (fun (z : (-2) < (-7)) => absurd z (by decide)) (fun (_ : ¬ ((-2) < (-7))) => ?_)
            refine R_s (P := True) (f' := (9, [some (vR 1), some (vI (-7))], [vI (-8), vI (-7)], LAY (shA A) (shF F), 0, 0)) hc93 2 rfl trivial ?_
            refine R_ic (t := 23) hc93 rfl rfl (fun (z : (-7) < (-8)) => absurd z (by decide)) (fun (_ : ¬ ((-7) < (-8))) => ?_)
            refine R_s (P := inI 7 ∧ (0 ≤ 7 ∧ 7 < ((A 87).length : Int)) ∧ inI ((rd (A 87) 7) + 1) ∧ (0 ≤ 7 ∧ 7 < ((A 87).length : Int)) ∧ True) (f' := (24, [some (vR 1), some (vI (-7))], [vI (-7)], LAY (u (shA A) 87 (wr (A 87) 7 ((rd (A 87) 7) + 1))) (shF F), 0, 0)) hc93 10 rfl ⟨⟨by omega, by omega⟩, ⟨by omega, by omega⟩, ⟨by omega, by omega⟩, ⟨by omega, by omega⟩, trivial⟩ ?_
            refine R_reti hc93 rfl rfl ?_
            refine R_s (f' := (231, [some (vR 1), some (vI 0), some (vI i), some (vI q), some (vR 20), some (vI (rd (A 21) i))], [vI (-7)], LAY (u (shA A) 87 (wr (A 87) 7 ((rd (A 87) 7) + 1))) (shF F), 0, 0)) hc73 0 rfl trivial ?_
            refine R_reti hc73 rfl rfl ?_
            refine R_s (P := True) (f' := (2, [some (vR 88), some (vI 0), some (vI i), some (vI q), none, none], [vI 0, vR 88], LAY (u (shA A) 87 (wr (A 87) 7 ((rd (A 87) 7) + 1))) (shF F), 0, 0)) hc147 2 rfl trivial ?_
            refine R_cv hc147 rfl rfl ?_ (fun r G h => h)
            refine R_s (P := inI ((F 0) - 1) ∧ True) (f' := (8, [some (vR 88), some (vI 0)], [vI ((F 0) - 1), vI 0, vI 0], LAY (u (shA A) 87 (wr (A 87) 7 ((rd (A 87) 7) + 1))) (shF F), 0, 0)) hc108 6 rfl ⟨⟨by omega, by omega⟩, trivial⟩ ?_
            refine R_cs hc108 rfl rfl ?_ (fun r G h => h)
            refine R_s (P := True) (f' := (2, [some (vI 0), some (vI 0), some (vI ((F 0) - 1))], [vI 0, vI 0], LAY (u (shA A) 87 (wr (A 87) 7 ((rd (A 87) 7) + 1))) (shF F), 0, 0)) hc104 2 rfl trivial ?_
            refine R_ic (t := 14) hc104 rfl rfl (fun (z : 0 < 0) => absurd z (by decide)) (fun (_ : ¬ (0 < 0)) => ?_)
            refine R_s (P := True) (f' := (7, [some (vI 0), some (vI 0), some (vI ((F 0) - 1))], [vI ((F 0) - 1), vI 0], LAY (u (shA A) 87 (wr (A 87) 7 ((rd (A 87) 7) + 1))) (shF F), 0, 0)) hc104 2 rfl trivial ?_
            refine R_ic (t := 14) hc104 rfl rfl (fun (z : (F 0) - 1 < 0) => absurd z (by omega)) (fun (_ : ¬ ((F 0) - 1 < 0)) => ?_)
            refine R_s (P := True) (f' := (15, [some (vI 0), some (vI 0), some (vI ((F 0) - 1))], [vI 1], LAY (u (shA A) 87 (wr (A 87) 7 ((rd (A 87) 7) + 1))) (shF F), 0, 0)) hc104 2 rfl trivial ?_
            refine R_retz hc104 rfl rfl (Or.inr rfl) ?_
            refine R_s (f' := (11, [some (vR 88), some (vI 0)], [vI 1], LAY (u (shA A) 87 (wr (A 87) 7 ((rd (A 87) 7) + 1))) (shF F), 0, 0)) hc108 0 rfl trivial ?_
            refine R_retz hc108 rfl rfl (Or.inr rfl) ?_
            refine R_s (f' := (5, [some (vR 88), some (vI 0), some (vI i), some (vI q), none, none], [vI 1], LAY (u (shA A) 87 (wr (A 87) 7 ((rd (A 87) 7) + 1))) (shF F), 0, 0)) hc147 0 rfl trivial ?_
            refine R_if (t := 24) hc147 rfl rfl (fun (z : 1 = 0) => absurd z (by decide)) (fun (_ : ¬ (1 = 0)) => ?_)
            refine R_s (P := (0 ≤ 0 ∧ 0 < ((A 99).length : Int)) ∧ inI ((rd (A 99) 0) - 1) ∧ True) (f' := (18, [some (vR 88), some (vI 0), some (vI i), some (vI q), none, none], [vI ((rd (A 99) 0) - 1), vI (-1), vI i], LAY (u (shA A) 87 (wr (A 87) 7 ((rd (A 87) 7) + 1))) (shF F), 0, 0)) hc147 8 rfl ⟨⟨by omega, by omega⟩, ⟨by omega, by omega⟩, trivial⟩ ?_
            refine R_cs hc147 rfl rfl ?_ (fun r G h => h)
            refine R_s (P := True) (f' := (2, [some (vI i), some (vI (-1)), some (vI ((rd (A 99) 0) - 1))], [vI (-1), vI i], LAY (u (shA A) 87 (wr (A 87) 7 ((rd (A 87) 7) + 1))) (shF F), 0, 0)) hc104 2 rfl trivial ?_
            refine R_ic (t := 14) hc104 rfl rfl (fun (z : i < (-1)) => absurd z (by omega)) (fun (_ : ¬ (i < (-1))) => ?_)
            refine R_s (P := True) (f' := (7, [some (vI i), some (vI (-1)), some (vI ((rd (A 99) 0) - 1))], [vI ((rd (A 99) 0) - 1), vI i], LAY (u (shA A) 87 (wr (A 87) 7 ((rd (A 87) 7) + 1))) (shF F), 0, 0)) hc104 2 rfl trivial ?_
            refine R_ic (t := 14) hc104 rfl rfl (fun (z : (rd (A 99) 0) - 1 < i) => absurd z (by omega)) (fun (_ : ¬ ((rd (A 99) 0) - 1 < i)) => ?_)
            refine R_s (P := True) (f' := (15, [some (vI i), some (vI (-1)), some (vI ((rd (A 99) 0) - 1))], [vI 1], LAY (u (shA A) 87 (wr (A 87) 7 ((rd (A 87) 7) + 1))) (shF F), 0, 0)) hc104 2 rfl trivial ?_
            refine R_retz hc104 rfl rfl (Or.inr rfl) ?_
            refine R_s (f' := (21, [some (vR 88), some (vI 0), some (vI i), some (vI q), none, none], [vI 1], LAY (u (shA A) 87 (wr (A 87) 7 ((rd (A 87) 7) + 1))) (shF F), 0, 0)) hc147 0 rfl trivial ?_
            refine R_if (t := 31) hc147 rfl rfl (fun (_ : ¬ 1 = 0) => ?_) (fun (z : ¬ (¬ 1 = 0)) => absurd (by decide) z)
            refine R_s (P := True) (f' := (33, [some (vR 88), some (vI 0), some (vI i), some (vI q), none, none], [vI (-1), vI i], LAY (u (shA A) 87 (wr (A 87) 7 ((rd (A 87) 7) + 1))) (shF F), 0, 0)) hc147 2 rfl trivial ?_
            refine R_ic (t := 43) hc147 rfl rfl (fun (_ : ¬ i = (-1)) => ?_) (fun (z : ¬ (¬ i = (-1))) => absurd (show ¬ i = (-1) by omega) z)
            refine R_s (P := True) (f' := (46, [some (vR 88), some (vI 0), some (vI i), some (vI q), none, none], [vI 5, vI 0, vI q], LAY (u (shA A) 87 (wr (A 87) 7 ((rd (A 87) 7) + 1))) (shF F), 0, 0)) hc147 3 rfl trivial ?_
            refine R_cs hc147 rfl rfl ?_ (fun r G h => h)
            refine R_s (P := True) (f' := (2, [some (vI q), some (vI 0), some (vI 5)], [vI 0, vI q], LAY (u (shA A) 87 (wr (A 87) 7 ((rd (A 87) 7) + 1))) (shF F), 0, 0)) hc104 2 rfl trivial ?_
            refine R_ic (t := 14) hc104 rfl rfl (fun (z : q < 0) => absurd z (by omega)) (fun (_ : ¬ (q < 0)) => ?_)
            refine R_s (P := True) (f' := (7, [some (vI q), some (vI 0), some (vI 5)], [vI 5, vI q], LAY (u (shA A) 87 (wr (A 87) 7 ((rd (A 87) 7) + 1))) (shF F), 0, 0)) hc104 2 rfl trivial ?_
            refine R_ic (t := 14) hc104 rfl rfl (fun (_ : 5 < q) => ?_) (fun (z : ¬ (5 < q)) => absurd (show 5 < q by omega) z)
            refine R_s (P := True) (f' := (15, [some (vI q), some (vI 0), some (vI 5)], [vI 0], LAY (u (shA A) 87 (wr (A 87) 7 ((rd (A 87) 7) + 1))) (shF F), 0, 0)) hc104 1 rfl trivial ?_
            refine R_retz hc104 rfl rfl (Or.inl rfl) ?_
            refine R_s (f' := (49, [some (vR 88), some (vI 0), some (vI i), some (vI q), none, none], [vI 0], LAY (u (shA A) 87 (wr (A 87) 7 ((rd (A 87) 7) + 1))) (shF F), 0, 0)) hc147 0 rfl trivial ?_
            refine R_if (t := 59) hc147 rfl rfl (fun (z : ¬ 0 = 0) => absurd z (by decide)) (fun (_ : ¬ (¬ 0 = 0)) => ?_)
            refine R_s (P := True) (f' := (55, [some (vR 88), some (vI 0), some (vI i), some (vI q), none, none], [vI (-7), vR 88], LAY (u (shA A) 87 (wr (A 87) 7 ((rd (A 87) 7) + 1))) (shF F), 0, 0)) hc147 2 rfl trivial ?_
            refine R_cv hc147 rfl rfl ?_ (fun r G h => h)
            refine R_s (P := inI 7 ∧ (0 ≤ 7 ∧ 7 < ((A 87).length : Int)) ∧ inI ((rd (A 87) 7) + 1) ∧ (0 ≤ 7 ∧ 7 < ((A 87).length : Int)) ∧ True) (f' := (12, [some (vR 88), some (vI (-7))], [vI (-7)], LAY (u (u (shA A) 87 (wr (A 87) 7 ((rd (A 87) 7) + 1))) 89 (wr (A 87) 7 ((rd (A 87) 7) + 1))) (shF F), 0, 0)) hc105 10 rfl ⟨⟨by omega, by omega⟩, ⟨by omega, by omega⟩, ⟨by omega, by omega⟩, ⟨by omega, by omega⟩, trivial⟩ ?_
            refine R_reti hc105 rfl rfl ?_
            refine R_s (f' := (58, [some (vR 88), some (vI 0), some (vI i), some (vI q), none, none], [vI (-7)], LAY (u (u (shA A) 87 (wr (A 87) 7 ((rd (A 87) 7) + 1))) 89 (wr (A 87) 7 ((rd (A 87) 7) + 1))) (shF F), 0, 0)) hc147 0 rfl trivial ?_
            refine R_reti hc147 rfl rfl ?_
            first
              | (exfalso; omega; done)
              | exact ⟨rfl, (u A 87 (wr (A 87) 7 ((rd (A 87) 7) + 1))), F, rfl, rfl, REL_ref hR0 (by decide) (by decide)⟩
  · refine R_s (P := True) (f' := (29, [some (vR 1), some (vI 0), some (vI i), some (vI q), some (vR 20), none], [vI (F 8)], LAY (shA A) (shF F), 0, 0)) hc73 2 rfl trivial ?_
    refine R_reti hc73 rfl rfl ?_
    refine R_s (P := True) (f' := (2, [some (vR 88), some (vI 0), some (vI i), some (vI q), none, none], [vI 0, vR 88], LAY (shA A) (shF F), 0, 0)) hc147 2 rfl trivial ?_
    refine R_cv hc147 rfl rfl ?_ (fun r G h => h)
    refine R_s (P := inI ((F 0) - 1) ∧ True) (f' := (8, [some (vR 88), some (vI 0)], [vI ((F 0) - 1), vI 0, vI 0], LAY (shA A) (shF F), 0, 0)) hc108 6 rfl ⟨⟨by omega, by omega⟩, trivial⟩ ?_
    refine R_cs hc108 rfl rfl ?_ (fun r G h => h)
    refine R_s (P := True) (f' := (2, [some (vI 0), some (vI 0), some (vI ((F 0) - 1))], [vI 0, vI 0], LAY (shA A) (shF F), 0, 0)) hc104 2 rfl trivial ?_
    refine R_ic (t := 14) hc104 rfl rfl (fun (z : 0 < 0) => absurd z (by decide)) (fun (_ : ¬ (0 < 0)) => ?_)
    refine R_s (P := True) (f' := (7, [some (vI 0), some (vI 0), some (vI ((F 0) - 1))], [vI ((F 0) - 1), vI 0], LAY (shA A) (shF F), 0, 0)) hc104 2 rfl trivial ?_
    refine R_ic (t := 14) hc104 rfl rfl (fun (z : (F 0) - 1 < 0) => absurd z (by omega)) (fun (_ : ¬ ((F 0) - 1 < 0)) => ?_)
    refine R_s (P := True) (f' := (15, [some (vI 0), some (vI 0), some (vI ((F 0) - 1))], [vI 1], LAY (shA A) (shF F), 0, 0)) hc104 2 rfl trivial ?_
    refine R_retz hc104 rfl rfl (Or.inr rfl) ?_
    refine R_s (f' := (11, [some (vR 88), some (vI 0)], [vI 1], LAY (shA A) (shF F), 0, 0)) hc108 0 rfl trivial ?_
    refine R_retz hc108 rfl rfl (Or.inr rfl) ?_
    refine R_s (f' := (5, [some (vR 88), some (vI 0), some (vI i), some (vI q), none, none], [vI 1], LAY (shA A) (shF F), 0, 0)) hc147 0 rfl trivial ?_
    refine R_if (t := 24) hc147 rfl rfl (fun (z : 1 = 0) => absurd z (by decide)) (fun (_ : ¬ (1 = 0)) => ?_)
    refine R_s (P := (0 ≤ 0 ∧ 0 < ((A 99).length : Int)) ∧ inI ((rd (A 99) 0) - 1) ∧ True) (f' := (18, [some (vR 88), some (vI 0), some (vI i), some (vI q), none, none], [vI ((rd (A 99) 0) - 1), vI (-1), vI i], LAY (shA A) (shF F), 0, 0)) hc147 8 rfl ⟨⟨by omega, by omega⟩, ⟨by omega, by omega⟩, trivial⟩ ?_
    refine R_cs hc147 rfl rfl ?_ (fun r G h => h)
    refine R_s (P := True) (f' := (2, [some (vI i), some (vI (-1)), some (vI ((rd (A 99) 0) - 1))], [vI (-1), vI i], LAY (shA A) (shF F), 0, 0)) hc104 2 rfl trivial ?_
    refine R_ic (t := 14) hc104 rfl rfl (fun (z : i < (-1)) => absurd z (by omega)) (fun (_ : ¬ (i < (-1))) => ?_)
    refine R_s (P := True) (f' := (7, [some (vI i), some (vI (-1)), some (vI ((rd (A 99) 0) - 1))], [vI ((rd (A 99) 0) - 1), vI i], LAY (shA A) (shF F), 0, 0)) hc104 2 rfl trivial ?_
    refine R_ic (t := 14) hc104 rfl rfl (fun (c133 : (rd (A 99) 0) - 1 < i) => ?_) (fun (c133 : ¬ ((rd (A 99) 0) - 1 < i)) => ?_)
    · refine R_s (P := True) (f' := (15, [some (vI i), some (vI (-1)), some (vI ((rd (A 99) 0) - 1))], [vI 0], LAY (shA A) (shF F), 0, 0)) hc104 1 rfl trivial ?_
      refine R_retz hc104 rfl rfl (Or.inl rfl) ?_
      refine R_s (f' := (21, [some (vR 88), some (vI 0), some (vI i), some (vI q), none, none], [vI 0], LAY (shA A) (shF F), 0, 0)) hc147 0 rfl trivial ?_
      refine R_if (t := 31) hc147 rfl rfl (fun (z : ¬ 0 = 0) => absurd z (by decide)) (fun (_ : ¬ (¬ 0 = 0)) => ?_)
      refine R_s (P := True) (f' := (27, [some (vR 88), some (vI 0), some (vI i), some (vI q), none, none], [vI (-3), vR 88], LAY (shA A) (shF F), 0, 0)) hc147 2 rfl trivial ?_
      refine R_cv hc147 rfl rfl ?_ (fun r G h => h)
      refine R_s (P := inI 3 ∧ (0 ≤ 3 ∧ 3 < ((A 87).length : Int)) ∧ inI ((rd (A 87) 3) + 1) ∧ (0 ≤ 3 ∧ 3 < ((A 87).length : Int)) ∧ True) (f' := (12, [some (vR 88), some (vI (-3))], [vI (-3)], LAY (u (shA A) 89 (wr (A 87) 3 ((rd (A 87) 3) + 1))) (shF F), 0, 0)) hc105 10 rfl ⟨⟨by omega, by omega⟩, ⟨by omega, by omega⟩, ⟨by omega, by omega⟩, ⟨by omega, by omega⟩, trivial⟩ ?_
      refine R_reti hc105 rfl rfl ?_
      refine R_s (f' := (30, [some (vR 88), some (vI 0), some (vI i), some (vI q), none, none], [vI (-3)], LAY (u (shA A) 89 (wr (A 87) 3 ((rd (A 87) 3) + 1))) (shF F), 0, 0)) hc147 0 rfl trivial ?_
      refine R_reti hc147 rfl rfl ?_
      first
        | (exfalso; omega; done)
        | exact ⟨(by rw [show (-3) = F 8 by omega]), A, F, rfl, rfl, REL_c hR0⟩
    · refine R_s (P := True) (f' := (15, [some (vI i), some (vI (-1)), some (vI ((rd (A 99) 0) - 1))], [vI 1], LAY (shA A) (shF F), 0, 0)) hc104 2 rfl trivial ?_
      refine R_retz hc104 rfl rfl (Or.inr rfl) ?_
      refine R_s (f' := (21, [some (vR 88), some (vI 0), some (vI i), some (vI q), none, none], [vI 1], LAY (shA A) (shF F), 0, 0)) hc147 0 rfl trivial ?_
      refine R_if (t := 31) hc147 rfl rfl (fun (_ : ¬ 1 = 0) => ?_) (fun (z : ¬ (¬ 1 = 0)) => absurd (by decide) z)
      refine R_s (P := True) (f' := (33, [some (vR 88), some (vI 0), some (vI i), some (vI q), none, none], [vI (-1), vI i], LAY (shA A) (shF F), 0, 0)) hc147 2 rfl trivial ?_
      refine R_ic (t := 43) hc147 rfl rfl (fun (z : ¬ i = (-1)) => absurd z (by omega)) (fun (_ : ¬ (¬ i = (-1))) => ?_)
      refine R_s (P := (0 ≤ 0 ∧ 0 < ((A 99).length : Int)) ∧ True) (f' := (42, [some (vR 88), some (vI 0), some (vI i), some (vI q), none, none], [vI (rd (A 99) 0)], LAY (shA A) (shF F), 0, 0)) hc147 4 rfl ⟨⟨by omega, by omega⟩, trivial⟩ ?_
      refine R_reti hc147 rfl rfl ?_
      first
        | (exfalso; omega; done)
        | exact ⟨(by rw [show rd (A 99) 0 = F 8 by omega]), A, F, rfl, rfl, REL_c hR0⟩

set_option maxHeartbeats 4000000 in
theorem op_share_n {c : Int} {A : Nat → List Int} {F : Nat → Int} (hR : REL c A F) (hc : c < 512) (d i p lw : Int) (i_d : inI d) (i_i : inI i) (i_p : inI p) (i_lw : inI lw) (hd : d < 0) (hx : lw = 0 ∨ lw = 1) : R 79 (0, L0 79 [vR 1, vI d, vI i, vI p, vI lw], [], LAY (shA A) (shF F), 0, 0) (fun r G => R 153 (0, L0 153 [vR 88, vI d, vI i, vI p, vI lw], [], G, 0, 0) (fun r2 G2 => r2 = r ∧ ∃ (A' : Nat → List Int) (F' : Nat → Int), G2 = LAY (shA A') (shF F') ∧ A' 0 = A 0 ∧ REL (c + 1) A' F')) := by
  have hR0 := hR
  obtain ⟨hL, hPE, hTH, hTP, hDE, hLE, hNO, hAC, hRO, hRE⟩ := hR
  have j_d := i_d
  unfold inI at j_d
  have j_i := i_i
  unfold inI at j_i
  have j_p := i_p
  unfold inI at j_p
  have j_lw := i_lw
  unfold inI at j_lw
  have h87 : (A 87).length = 9 := hL 87 (by decide)
  have r2 := REFU_at hRE (k := 2) (by decide) (by decide) hc
  have r3 := REFU_at hRE (k := 3) (by decide) (by decide) hc
  have r4 := REFU_at hRE (k := 4) (by decide) (by decide) hc
  have r5 := REFU_at hRE (k := 5) (by decide) (by decide) hc
  have r6 := REFU_at hRE (k := 6) (by decide) (by decide) hc
  have r7 := REFU_at hRE (k := 7) (by decide) (by decide) hc
  have r8 := REFU_at hRE (k := 8) (by decide) (by decide) hc
  obtain ⟨t1, t2, t3, t4, t5, t6⟩ := hTH
  obtain ⟨p1, p2, p3, p4, p5, p6⟩ := hPE
  refine R_s (P := True) (f' := (2, [some (vR 1), some (vI d), some (vI i), some (vI p), some (vI lw), none, none], [vI d, vR 1], LAY (shA A) (shF F), 0, 0)) hc79 2 rfl trivial ?_
  refine R_cv hc79 rfl rfl ?_ (fun r G h => h)
  refine R_s (P := True) (f' := (2, [some (vR 1), some (vI d)], [vI d, vR 1], LAY (shA A) (shF F), 0, 0)) hc99 2 rfl trivial ?_
  refine R_cv hc99 rfl rfl ?_ (fun r G h => h)
  refine R_s (P := True) (f' := (1, [some (vR 1), some (vI d)], [vI d], LAY (shA A) (shF F), 0, 0)) hc98 1 rfl trivial ?_
  refine R_if (t := 16) hc98 rfl rfl (fun (_ : d < 0) => ?_) (fun (z : ¬ (d < 0)) => absurd (show d < 0 by omega) z)
  refine R_s (P := True) (f' := (17, [some (vR 1), some (vI d)], [vI 0], LAY (shA A) (shF F), 0, 0)) hc98 1 rfl trivial ?_
  refine R_retz hc98 rfl rfl (Or.inl rfl) ?_
  refine R_s (f' := (5, [some (vR 1), some (vI d)], [vI 0], LAY (shA A) (shF F), 0, 0)) hc99 0 rfl trivial ?_
  refine R_if (t := 17) hc99 rfl rfl (fun (_ : 0 = 0) => ?_) (fun (z : ¬ (0 = 0)) => absurd (by decide) z)
  refine R_s (P := True) (f' := (18, [some (vR 1), some (vI d)], [vN], LAY (shA A) (shF F), 0, 0)) hc99 1 rfl trivial ?_
  refine R_reta hc99 rfl rfl ?_
  refine R_s (f' := (5, [some (vR 1), some (vI d), some (vI i), some (vI p), some (vI lw), none, none], [vN], LAY (shA A) (shF F), 0, 0)) hc79 0 rfl trivial ?_
  refine R_s (P := True) (f' := (35, [some (vR 1), some (vI d), some (vI i), some (vI p), some (vI lw), some (vN), none], [vI (-3), vR 1], LAY (shA A) (shF F), 0, 0)) hc79 5 rfl trivial ?_
  refine R_cv hc79 rfl rfl ?_ (fun r G h => h)
  refine R_s (P := True) (f' := (3, [some (vR 1), some (vI (-3))], [vI (-2), vI (-3)], LAY (shA A) (shF F), 0, 0)) hc93 2 rfl trivial ?_
  refine R_ic (t := 23) hc93 rfl rfl (fun (z : (-2) < (-3)) => absurd z (by decide)) (fun (_ : ¬ ((-2) < (-3))) => ?_)
  refine R_s (P := True) (f' := (9, [some (vR 1), some (vI (-3))], [vI (-8), vI (-3)], LAY (shA A) (shF F), 0, 0)) hc93 2 rfl trivial ?_
  refine R_ic (t := 23) hc93 rfl rfl (fun (z : (-3) < (-8)) => absurd z (by decide)) (fun (_ : ¬ ((-3) < (-8))) => ?_)
  refine R_s (P := inI 3 ∧ (0 ≤ 3 ∧ 3 < ((A 87).length : Int)) ∧ inI ((rd (A 87) 3) + 1) ∧ (0 ≤ 3 ∧ 3 < ((A 87).length : Int)) ∧ True) (f' := (24, [some (vR 1), some (vI (-3))], [vI (-3)], LAY (u (shA A) 87 (wr (A 87) 3 ((rd (A 87) 3) + 1))) (shF F), 0, 0)) hc93 10 rfl ⟨⟨by omega, by omega⟩, ⟨by omega, by omega⟩, ⟨by omega, by omega⟩, ⟨by omega, by omega⟩, trivial⟩ ?_
  refine R_reti hc93 rfl rfl ?_
  refine R_s (f' := (38, [some (vR 1), some (vI d), some (vI i), some (vI p), some (vI lw), some (vN), none], [vI (-3)], LAY (u (shA A) 87 (wr (A 87) 3 ((rd (A 87) 3) + 1))) (shF F), 0, 0)) hc79 0 rfl trivial ?_
  refine R_s (P := True) (f' := (40, [some (vR 1), some (vI d), some (vI i), some (vI p), some (vI lw), some (vN), none], [vJ 0], LAY (u (shA A) 87 (wr (A 87) 3 ((rd (A 87) 3) + 1))) (shF F), 0, 0)) hc79 2 rfl trivial ?_
  refine R_retl hc79 rfl rfl ?_
  refine R_s (P := True) (f' := (2, [some (vR 88), some (vI d), some (vI i), some (vI p), some (vI lw), none, none], [vI d, vR 88], LAY (u (shA A) 87 (wr (A 87) 3 ((rd (A 87) 3) + 1))) (shF F), 0, 0)) hc153 2 rfl trivial ?_
  refine R_cv hc153 rfl rfl ?_ (fun r G h => h)
  refine R_s (P := inI ((F 0) - 1) ∧ True) (f' := (8, [some (vR 88), some (vI d)], [vI ((F 0) - 1), vI 0, vI d], LAY (u (shA A) 87 (wr (A 87) 3 ((rd (A 87) 3) + 1))) (shF F), 0, 0)) hc108 6 rfl ⟨⟨by omega, by omega⟩, trivial⟩ ?_
  refine R_cs hc108 rfl rfl ?_ (fun r G h => h)
  refine R_s (P := True) (f' := (2, [some (vI d), some (vI 0), some (vI ((F 0) - 1))], [vI 0, vI d], LAY (u (shA A) 87 (wr (A 87) 3 ((rd (A 87) 3) + 1))) (shF F), 0, 0)) hc104 2 rfl trivial ?_
  refine R_ic (t := 14) hc104 rfl rfl (fun (_ : d < 0) => ?_) (fun (z : ¬ (d < 0)) => absurd (show d < 0 by omega) z)
  refine R_s (P := True) (f' := (15, [some (vI d), some (vI 0), some (vI ((F 0) - 1))], [vI 0], LAY (u (shA A) 87 (wr (A 87) 3 ((rd (A 87) 3) + 1))) (shF F), 0, 0)) hc104 1 rfl trivial ?_
  refine R_retz hc104 rfl rfl (Or.inl rfl) ?_
  refine R_s (f' := (11, [some (vR 88), some (vI d)], [vI 0], LAY (u (shA A) 87 (wr (A 87) 3 ((rd (A 87) 3) + 1))) (shF F), 0, 0)) hc108 0 rfl trivial ?_
  refine R_retz hc108 rfl rfl (Or.inl rfl) ?_
  refine R_s (f' := (5, [some (vR 88), some (vI d), some (vI i), some (vI p), some (vI lw), none, none], [vI 0], LAY (u (shA A) 87 (wr (A 87) 3 ((rd (A 87) 3) + 1))) (shF F), 0, 0)) hc153 0 rfl trivial ?_
  refine R_if (t := 32) hc153 rfl rfl (fun (_ : 0 = 0) => ?_) (fun (z : ¬ (0 = 0)) => absurd (by decide) z)
  refine R_s (P := True) (f' := (35, [some (vR 88), some (vI d), some (vI i), some (vI p), some (vI lw), none, none], [vI (-3), vR 88], LAY (u (shA A) 87 (wr (A 87) 3 ((rd (A 87) 3) + 1))) (shF F), 0, 0)) hc153 2 rfl trivial ?_
  refine R_cv hc153 rfl rfl ?_ (fun r G h => h)
  refine R_s (P := inI 3 ∧ (0 ≤ 3 ∧ 3 < ((A 87).length : Int)) ∧ inI ((rd (A 87) 3) + 1) ∧ (0 ≤ 3 ∧ 3 < ((A 87).length : Int)) ∧ True) (f' := (12, [some (vR 88), some (vI (-3))], [vI (-3)], LAY (u (u (shA A) 87 (wr (A 87) 3 ((rd (A 87) 3) + 1))) 89 (wr (A 87) 3 ((rd (A 87) 3) + 1))) (shF F), 0, 0)) hc105 10 rfl ⟨⟨by omega, by omega⟩, ⟨by omega, by omega⟩, ⟨by omega, by omega⟩, ⟨by omega, by omega⟩, trivial⟩ ?_
  refine R_reti hc105 rfl rfl ?_
  refine R_s (f' := (38, [some (vR 88), some (vI d), some (vI i), some (vI p), some (vI lw), none, none], [vI (-3)], LAY (u (u (shA A) 87 (wr (A 87) 3 ((rd (A 87) 3) + 1))) 89 (wr (A 87) 3 ((rd (A 87) 3) + 1))) (shF F), 0, 0)) hc153 0 rfl trivial ?_
  refine R_s (P := True) (f' := (41, [some (vR 88), some (vI d), some (vI i), some (vI p), some (vI lw), some (vI (-3)), none], [vJ 0], LAY (u (u (shA A) 87 (wr (A 87) 3 ((rd (A 87) 3) + 1))) 89 (wr (A 87) 3 ((rd (A 87) 3) + 1))) (shF F), 0, 0)) hc153 2 rfl trivial ?_
  refine R_retl hc153 rfl rfl ?_
  first
    | (exfalso; omega; done)
    | exact ⟨rfl, (u A 87 (wr (A 87) 3 ((rd (A 87) 3) + 1))), F, rfl, rfl, REL_ref hR0 (by decide) (by decide)⟩

set_option maxHeartbeats 4000000 in
theorem op_share_b {c : Int} {A : Nat → List Int} {F : Nat → Int} (hR : REL c A F) (hc : c < 512) (d i p lw : Int) (i_d : inI d) (i_i : inI i) (i_p : inI p) (i_lw : inI lw) (hd : 0 ≤ d ∧ F 0 ≤ d) (hx : lw = 0 ∨ lw = 1) : R 79 (0, L0 79 [vR 1, vI d, vI i, vI p, vI lw], [], LAY (shA A) (shF F), 0, 0) (fun r G => R 153 (0, L0 153 [vR 88, vI d, vI i, vI p, vI lw], [], G, 0, 0) (fun r2 G2 => r2 = r ∧ ∃ (A' : Nat → List Int) (F' : Nat → Int), G2 = LAY (shA A') (shF F') ∧ A' 0 = A 0 ∧ REL (c + 1) A' F')) := by
  have hR0 := hR
  obtain ⟨hL, hPE, hTH, hTP, hDE, hLE, hNO, hAC, hRO, hRE⟩ := hR
  have j_d := i_d
  unfold inI at j_d
  have j_i := i_i
  unfold inI at j_i
  have j_p := i_p
  unfold inI at j_p
  have j_lw := i_lw
  unfold inI at j_lw
  have h87 : (A 87).length = 9 := hL 87 (by decide)
  have r2 := REFU_at hRE (k := 2) (by decide) (by decide) hc
  have r3 := REFU_at hRE (k := 3) (by decide) (by decide) hc
  have r4 := REFU_at hRE (k := 4) (by decide) (by decide) hc
  have r5 := REFU_at hRE (k := 5) (by decide) (by decide) hc
  have r6 := REFU_at hRE (k := 6) (by decide) (by decide) hc
  have r7 := REFU_at hRE (k := 7) (by decide) (by decide) hc
  have r8 := REFU_at hRE (k := 8) (by decide) (by decide) hc
  obtain ⟨t1, t2, t3, t4, t5, t6⟩ := hTH
  obtain ⟨p1, p2, p3, p4, p5, p6⟩ := hPE
  refine R_s (P := True) (f' := (2, [some (vR 1), some (vI d), some (vI i), some (vI p), some (vI lw), none, none], [vI d, vR 1], LAY (shA A) (shF F), 0, 0)) hc79 2 rfl trivial ?_
  refine R_cv hc79 rfl rfl ?_ (fun r G h => h)
  refine R_s (P := True) (f' := (2, [some (vR 1), some (vI d)], [vI d, vR 1], LAY (shA A) (shF F), 0, 0)) hc99 2 rfl trivial ?_
  refine R_cv hc99 rfl rfl ?_ (fun r G h => h)
  refine R_s (P := True) (f' := (1, [some (vR 1), some (vI d)], [vI d], LAY (shA A) (shF F), 0, 0)) hc98 1 rfl trivial ?_
  refine R_if (t := 16) hc98 rfl rfl (fun (z : d < 0) => absurd z (by omega)) (fun (_ : ¬ (d < 0)) => ?_)
  refine R_s (P := True) (f' := (9, [some (vR 1), some (vI d)], [vI (F 0), vI d], LAY (shA A) (shF F), 0, 0)) hc98 3 rfl trivial ?_
  refine R_ic (t := 16) hc98 rfl rfl (fun (_ : F 0 ≤ d) => ?_) (fun (z : ¬ (F 0 ≤ d)) => absurd (show F 0 ≤ d by omega) z)
  refine R_s (P := True) (f' := (17, [some (vR 1), some (vI d)], [vI 0], LAY (shA A) (shF F), 0, 0)) hc98 1 rfl trivial ?_
  refine R_retz hc98 rfl rfl (Or.inl rfl) ?_
  refine R_s (f' := (5, [some (vR 1), some (vI d)], [vI 0], LAY (shA A) (shF F), 0, 0)) hc99 0 rfl trivial ?_
  refine R_if (t := 17) hc99 rfl rfl (fun (_ : 0 = 0) => ?_) (fun (z : ¬ (0 = 0)) => absurd (by decide) z)
  refine R_s (P := True) (f' := (18, [some (vR 1), some (vI d)], [vN], LAY (shA A) (shF F), 0, 0)) hc99 1 rfl trivial ?_
  refine R_reta hc99 rfl rfl ?_
  refine R_s (f' := (5, [some (vR 1), some (vI d), some (vI i), some (vI p), some (vI lw), none, none], [vN], LAY (shA A) (shF F), 0, 0)) hc79 0 rfl trivial ?_
  refine R_s (P := True) (f' := (35, [some (vR 1), some (vI d), some (vI i), some (vI p), some (vI lw), some (vN), none], [vI (-3), vR 1], LAY (shA A) (shF F), 0, 0)) hc79 5 rfl trivial ?_
  refine R_cv hc79 rfl rfl ?_ (fun r G h => h)
  refine R_s (P := True) (f' := (3, [some (vR 1), some (vI (-3))], [vI (-2), vI (-3)], LAY (shA A) (shF F), 0, 0)) hc93 2 rfl trivial ?_
  refine R_ic (t := 23) hc93 rfl rfl (fun (z : (-2) < (-3)) => absurd z (by decide)) (fun (_ : ¬ ((-2) < (-3))) => ?_)
  refine R_s (P := True) (f' := (9, [some (vR 1), some (vI (-3))], [vI (-8), vI (-3)], LAY (shA A) (shF F), 0, 0)) hc93 2 rfl trivial ?_
  refine R_ic (t := 23) hc93 rfl rfl (fun (z : (-3) < (-8)) => absurd z (by decide)) (fun (_ : ¬ ((-3) < (-8))) => ?_)
  refine R_s (P := inI 3 ∧ (0 ≤ 3 ∧ 3 < ((A 87).length : Int)) ∧ inI ((rd (A 87) 3) + 1) ∧ (0 ≤ 3 ∧ 3 < ((A 87).length : Int)) ∧ True) (f' := (24, [some (vR 1), some (vI (-3))], [vI (-3)], LAY (u (shA A) 87 (wr (A 87) 3 ((rd (A 87) 3) + 1))) (shF F), 0, 0)) hc93 10 rfl ⟨⟨by omega, by omega⟩, ⟨by omega, by omega⟩, ⟨by omega, by omega⟩, ⟨by omega, by omega⟩, trivial⟩ ?_
  refine R_reti hc93 rfl rfl ?_
  refine R_s (f' := (38, [some (vR 1), some (vI d), some (vI i), some (vI p), some (vI lw), some (vN), none], [vI (-3)], LAY (u (shA A) 87 (wr (A 87) 3 ((rd (A 87) 3) + 1))) (shF F), 0, 0)) hc79 0 rfl trivial ?_
  refine R_s (P := True) (f' := (40, [some (vR 1), some (vI d), some (vI i), some (vI p), some (vI lw), some (vN), none], [vJ 0], LAY (u (shA A) 87 (wr (A 87) 3 ((rd (A 87) 3) + 1))) (shF F), 0, 0)) hc79 2 rfl trivial ?_
  refine R_retl hc79 rfl rfl ?_
  refine R_s (P := True) (f' := (2, [some (vR 88), some (vI d), some (vI i), some (vI p), some (vI lw), none, none], [vI d, vR 88], LAY (u (shA A) 87 (wr (A 87) 3 ((rd (A 87) 3) + 1))) (shF F), 0, 0)) hc153 2 rfl trivial ?_
  refine R_cv hc153 rfl rfl ?_ (fun r G h => h)
  refine R_s (P := inI ((F 0) - 1) ∧ True) (f' := (8, [some (vR 88), some (vI d)], [vI ((F 0) - 1), vI 0, vI d], LAY (u (shA A) 87 (wr (A 87) 3 ((rd (A 87) 3) + 1))) (shF F), 0, 0)) hc108 6 rfl ⟨⟨by omega, by omega⟩, trivial⟩ ?_
  refine R_cs hc108 rfl rfl ?_ (fun r G h => h)
  refine R_s (P := True) (f' := (2, [some (vI d), some (vI 0), some (vI ((F 0) - 1))], [vI 0, vI d], LAY (u (shA A) 87 (wr (A 87) 3 ((rd (A 87) 3) + 1))) (shF F), 0, 0)) hc104 2 rfl trivial ?_
  refine R_ic (t := 14) hc104 rfl rfl (fun (z : d < 0) => absurd z (by omega)) (fun (_ : ¬ (d < 0)) => ?_)
  refine R_s (P := True) (f' := (7, [some (vI d), some (vI 0), some (vI ((F 0) - 1))], [vI ((F 0) - 1), vI d], LAY (u (shA A) 87 (wr (A 87) 3 ((rd (A 87) 3) + 1))) (shF F), 0, 0)) hc104 2 rfl trivial ?_
  refine R_ic (t := 14) hc104 rfl rfl (fun (_ : (F 0) - 1 < d) => ?_) (fun (z : ¬ ((F 0) - 1 < d)) => absurd (show (F 0) - 1 < d by omega) z)
  refine R_s (P := True) (f' := (15, [some (vI d), some (vI 0), some (vI ((F 0) - 1))], [vI 0], LAY (u (shA A) 87 (wr (A 87) 3 ((rd (A 87) 3) + 1))) (shF F), 0, 0)) hc104 1 rfl trivial ?_
  refine R_retz hc104 rfl rfl (Or.inl rfl) ?_
  refine R_s (f' := (11, [some (vR 88), some (vI d)], [vI 0], LAY (u (shA A) 87 (wr (A 87) 3 ((rd (A 87) 3) + 1))) (shF F), 0, 0)) hc108 0 rfl trivial ?_
  refine R_retz hc108 rfl rfl (Or.inl rfl) ?_
  refine R_s (f' := (5, [some (vR 88), some (vI d), some (vI i), some (vI p), some (vI lw), none, none], [vI 0], LAY (u (shA A) 87 (wr (A 87) 3 ((rd (A 87) 3) + 1))) (shF F), 0, 0)) hc153 0 rfl trivial ?_
  refine R_if (t := 32) hc153 rfl rfl (fun (_ : 0 = 0) => ?_) (fun (z : ¬ (0 = 0)) => absurd (by decide) z)
  refine R_s (P := True) (f' := (35, [some (vR 88), some (vI d), some (vI i), some (vI p), some (vI lw), none, none], [vI (-3), vR 88], LAY (u (shA A) 87 (wr (A 87) 3 ((rd (A 87) 3) + 1))) (shF F), 0, 0)) hc153 2 rfl trivial ?_
  refine R_cv hc153 rfl rfl ?_ (fun r G h => h)
  refine R_s (P := inI 3 ∧ (0 ≤ 3 ∧ 3 < ((A 87).length : Int)) ∧ inI ((rd (A 87) 3) + 1) ∧ (0 ≤ 3 ∧ 3 < ((A 87).length : Int)) ∧ True) (f' := (12, [some (vR 88), some (vI (-3))], [vI (-3)], LAY (u (u (shA A) 87 (wr (A 87) 3 ((rd (A 87) 3) + 1))) 89 (wr (A 87) 3 ((rd (A 87) 3) + 1))) (shF F), 0, 0)) hc105 10 rfl ⟨⟨by omega, by omega⟩, ⟨by omega, by omega⟩, ⟨by omega, by omega⟩, ⟨by omega, by omega⟩, trivial⟩ ?_
  refine R_reti hc105 rfl rfl ?_
  refine R_s (f' := (38, [some (vR 88), some (vI d), some (vI i), some (vI p), some (vI lw), none, none], [vI (-3)], LAY (u (u (shA A) 87 (wr (A 87) 3 ((rd (A 87) 3) + 1))) 89 (wr (A 87) 3 ((rd (A 87) 3) + 1))) (shF F), 0, 0)) hc153 0 rfl trivial ?_
  refine R_s (P := True) (f' := (41, [some (vR 88), some (vI d), some (vI i), some (vI p), some (vI lw), some (vI (-3)), none], [vJ 0], LAY (u (u (shA A) 87 (wr (A 87) 3 ((rd (A 87) 3) + 1))) 89 (wr (A 87) 3 ((rd (A 87) 3) + 1))) (shF F), 0, 0)) hc153 2 rfl trivial ?_
  refine R_retl hc153 rfl rfl ?_
  first
    | (exfalso; omega; done)
    | exact ⟨rfl, (u A 87 (wr (A 87) 3 ((rd (A 87) 3) + 1))), F, rfl, rfl, REL_ref hR0 (by decide) (by decide)⟩

set_option maxHeartbeats 4000000 in
theorem op_share_0 {c : Int} {A : Nat → List Int} {F : Nat → Int} (hR : REL c A F) (hc : c < 512) (i p lw : Int) (i_i : inI i) (i_p : inI p) (i_lw : inI lw) (hd : (0 : Int) < F 0) (hx : lw = 0 ∨ lw = 1) : R 79 (0, L0 79 [vR 1, vI 0, vI i, vI p, vI lw], [], LAY (shA A) (shF F), 0, 0) (fun r G => R 153 (0, L0 153 [vR 88, vI 0, vI i, vI p, vI lw], [], G, 0, 0) (fun r2 G2 => r2 = r ∧ ∃ (A' : Nat → List Int) (F' : Nat → Int), G2 = LAY (shA A') (shF F') ∧ A' 0 = A 0 ∧ REL (c + 1) A' F')) := by
  have hR0 := hR
  obtain ⟨hL, hPE, hTH, hTP, hDE, hLE, hNO, hAC, hRO, hRE⟩ := hR
  have j_i := i_i
  unfold inI at j_i
  have j_p := i_p
  unfold inI at j_p
  have j_lw := i_lw
  unfold inI at j_lw
  have h87 : (A 87).length = 9 := hL 87 (by decide)
  have h99 : (A 99).length = 6 := hL 99 (by decide)
  have r2 := REFU_at hRE (k := 2) (by decide) (by decide) hc
  have r3 := REFU_at hRE (k := 3) (by decide) (by decide) hc
  have r4 := REFU_at hRE (k := 4) (by decide) (by decide) hc
  have r5 := REFU_at hRE (k := 5) (by decide) (by decide) hc
  have r6 := REFU_at hRE (k := 6) (by decide) (by decide) hc
  have r7 := REFU_at hRE (k := 7) (by decide) (by decide) hc
  have r8 := REFU_at hRE (k := 8) (by decide) (by decide) hc
  obtain ⟨t1, t2, t3, t4, t5, t6⟩ := hTH
  obtain ⟨p1, p2, p3, p4, p5, p6⟩ := hPE
  have hD := D_at0 hR0 hd
  have he1 := hD.1.1
  have he2 := hD.1.2.1
  have hme : rd (A 99) 0 = F 8 := by
    have := hD.2.2.2.2.1
    omega
  obtain ⟨so, te, tp, mg, pm, lo, hS⟩ := SPL_ex A F (N_al A F) (N_Q A 21) (F 8).toNat (N_Y A F 0)
  have mE : 0 ≤ i → i < F 8 → rd (A 100) (0 + 8 * i) = rd (A 21) i := fun q1 q2 => (mI_0 hR0 hd q1 q2).1
  have mL : 0 ≤ i → i < F 8 → rd (A 21) i = 1 → rd (A 100) (0 + 8 * i + 4) = rd (A 25) i ∧ (rd (A 25) i = 0 ∨ rd (A 25) i = 1) ∧ rd (A 100) (0 + 8 * i + 2) = rd (A 23) i ∧ 0 ≤ rd (A 23) i ∧ rd (A 23) i < F 3 := fun q1 q2 q => ⟨((mI_0 hR0 hd q1 q2).2.2.2.2 q).1, ((mI_0 hR0 hd q1 q2).2.2.2.2 q).2.1, (mI_0 hR0 hd q1 q2).2.2.1 (.inl q), ((mI_0 hR0 hd q1 q2).2.2.2.2 q).2.2⟩
  have hl0 : (A 21).length = 6 := hL 21 (by decide)
  have hl1 : (A 22).length = 6 := hL 22 (by decide)
  have hl2 : (A 23).length = 6 := hL 23 (by decide)
  have hl3 : (A 24).length = 6 := hL 24 (by decide)
  have hl4 : (A 25).length = 6 := hL 25 (by decide)
  have h100 : (A 100).length = 288 := hL 100 (by decide)
  refine R_s (P := True) (f' := (2, [some (vR 1), some (vI 0), some (vI i), some (vI p), some (vI lw), none, none], [vI 0, vR 1], LAY (shA A) (shF F), 0, 0)) hc79 2 rfl trivial ?_
  refine R_cv hc79 rfl rfl ?_ (fun r G h => h)
  refine R_s (P := True) (f' := (2, [some (vR 1), some (vI 0)], [vI 0, vR 1], LAY (shA A) (shF F), 0, 0)) hc99 2 rfl trivial ?_
  refine R_cv hc99 rfl rfl ?_ (fun r G h => h)
  refine R_s (P := True) (f' := (1, [some (vR 1), some (vI 0)], [vI 0], LAY (shA A) (shF F), 0, 0)) hc98 1 rfl trivial ?_
  refine R_if (t := 16) hc98 rfl rfl (fun (z : 0 < 0) => absurd z (by decide)) (fun (_ : ¬ (0 < 0)) => ?_)
  refine R_s (P := True) (f' := (9, [some (vR 1), some (vI 0)], [vI (F 0), vI 0], LAY (shA A) (shF F), 0, 0)) hc98 3 rfl trivial ?_
  refine R_ic (t := 16) hc98 rfl rfl (fun (z : F 0 ≤ 0) => absurd z (by omega)) (fun (_ : ¬ (F 0 ≤ 0)) => ?_)
  refine R_s (P := True) (f' := (17, [some (vR 1), some (vI 0)], [vI 1], LAY (shA A) (shF F), 0, 0)) hc98 2 rfl trivial ?_
  refine R_retz hc98 rfl rfl (Or.inr rfl) ?_
  refine R_s (f' := (5, [some (vR 1), some (vI 0)], [vI 1], LAY (shA A) (shF F), 0, 0)) hc99 0 rfl trivial ?_
  refine R_if (t := 17) hc99 rfl rfl (fun (z : 1 = 0) => absurd z (by decide)) (fun (_ : ¬ (1 = 0)) => ?_)
  refine R_s (P := (0 ≤ (0 : Int) ∧ (0 : Int) < (([some 20, some 29, some 38, some 47, some 56, some 65] : List (Option Nat)).length : Int)) ∧ True) (f' := (18, [some (vR 1), some (vI 0)], [vR 20], LAY (shA A) (shF F), 0, 0)) hc99 5 rfl ⟨(by decide), trivial⟩ ?_
  refine R_reta hc99 rfl rfl ?_
  refine R_s (f' := (5, [some (vR 1), some (vI 0), some (vI i), some (vI p), some (vI lw), none, none], [vR 20], LAY (shA A) (shF F), 0, 0)) hc79 0 rfl trivial ?_
  refine R_s (P := True) (f' := (15, [some (vR 1), some (vI 0), some (vI i), some (vI p), some (vI lw), some (vR 20), none], [vI i, vR 20], LAY (shA A) (shF F), 0, 0)) hc79 5 rfl trivial ?_
  refine R_cv hc79 rfl rfl ?_ (fun r G h => h)
  refine R_s (P := True) (f' := (1, [some (vR 20), some (vI i)], [vI i], LAY (shA A) (shF F), 0, 0)) hc1 1 rfl trivial ?_
  refine R_if (t := 16) hc1 rfl rfl (fun (c4 : i < 0) => ?_) (fun (c4 : ¬ (i < 0)) => ?_)
  · refine R_s (P := True) (f' := (17, [some (vR 20), some (vI i)], [vI 0], LAY (shA A) (shF F), 0, 0)) hc1 1 rfl trivial ?_
    refine R_retz hc1 rfl rfl (Or.inl rfl) ?_
    refine R_s (f' := (18, [some (vR 1), some (vI 0), some (vI i), some (vI p), some (vI lw), some (vR 20), none], [vI 0], LAY (shA A) (shF F), 0, 0)) hc79 0 rfl trivial ?_
    refine R_if (t := 32) hc79 rfl rfl (fun (_ : 0 = 0) => ?_) (fun (z : ¬ (0 = 0)) => absurd (by decide) z)
    refine R_s (P := True) (f' := (35, [some (vR 1), some (vI 0), some (vI i), some (vI p), some (vI lw), some (vR 20), none], [vI (-3), vR 1], LAY (shA A) (shF F), 0, 0)) hc79 2 rfl trivial ?_
    refine R_cv hc79 rfl rfl ?_ (fun r G h => h)
    refine R_s (P := True) (f' := (3, [some (vR 1), some (vI (-3))], [vI (-2), vI (-3)], LAY (shA A) (shF F), 0, 0)) hc93 2 rfl trivial ?_
    refine R_ic (t := 23) hc93 rfl rfl (fun (z : (-2) < (-3)) => absurd z (by decide)) (fun (_ : ¬ ((-2) < (-3))) => ?_)
    refine R_s (P := True) (f' := (9, [some (vR 1), some (vI (-3))], [vI (-8), vI (-3)], LAY (shA A) (shF F), 0, 0)) hc93 2 rfl trivial ?_
    refine R_ic (t := 23) hc93 rfl rfl (fun (z : (-3) < (-8)) => absurd z (by decide)) (fun (_ : ¬ ((-3) < (-8))) => ?_)
    refine R_s (P := inI 3 ∧ (0 ≤ 3 ∧ 3 < ((A 87).length : Int)) ∧ inI ((rd (A 87) 3) + 1) ∧ (0 ≤ 3 ∧ 3 < ((A 87).length : Int)) ∧ True) (f' := (24, [some (vR 1), some (vI (-3))], [vI (-3)], LAY (u (shA A) 87 (wr (A 87) 3 ((rd (A 87) 3) + 1))) (shF F), 0, 0)) hc93 10 rfl ⟨⟨by omega, by omega⟩, ⟨by omega, by omega⟩, ⟨by omega, by omega⟩, ⟨by omega, by omega⟩, trivial⟩ ?_
    refine R_reti hc93 rfl rfl ?_
    refine R_s (f' := (38, [some (vR 1), some (vI 0), some (vI i), some (vI p), some (vI lw), some (vR 20), none], [vI (-3)], LAY (u (shA A) 87 (wr (A 87) 3 ((rd (A 87) 3) + 1))) (shF F), 0, 0)) hc79 0 rfl trivial ?_
    refine R_s (P := True) (f' := (40, [some (vR 1), some (vI 0), some (vI i), some (vI p), some (vI lw), some (vR 20), none], [vJ 0], LAY (u (shA A) 87 (wr (A 87) 3 ((rd (A 87) 3) + 1))) (shF F), 0, 0)) hc79 2 rfl trivial ?_
    refine R_retl hc79 rfl rfl ?_
    refine R_s (P := True) (f' := (2, [some (vR 88), some (vI 0), some (vI i), some (vI p), some (vI lw), none, none], [vI 0, vR 88], LAY (u (shA A) 87 (wr (A 87) 3 ((rd (A 87) 3) + 1))) (shF F), 0, 0)) hc153 2 rfl trivial ?_
    refine R_cv hc153 rfl rfl ?_ (fun r G h => h)
    refine R_s (P := inI ((F 0) - 1) ∧ True) (f' := (8, [some (vR 88), some (vI 0)], [vI ((F 0) - 1), vI 0, vI 0], LAY (u (shA A) 87 (wr (A 87) 3 ((rd (A 87) 3) + 1))) (shF F), 0, 0)) hc108 6 rfl ⟨⟨by omega, by omega⟩, trivial⟩ ?_
    refine R_cs hc108 rfl rfl ?_ (fun r G h => h)
    refine R_s (P := True) (f' := (2, [some (vI 0), some (vI 0), some (vI ((F 0) - 1))], [vI 0, vI 0], LAY (u (shA A) 87 (wr (A 87) 3 ((rd (A 87) 3) + 1))) (shF F), 0, 0)) hc104 2 rfl trivial ?_
    refine R_ic (t := 14) hc104 rfl rfl (fun (z : 0 < 0) => absurd z (by decide)) (fun (_ : ¬ (0 < 0)) => ?_)
    refine R_s (P := True) (f' := (7, [some (vI 0), some (vI 0), some (vI ((F 0) - 1))], [vI ((F 0) - 1), vI 0], LAY (u (shA A) 87 (wr (A 87) 3 ((rd (A 87) 3) + 1))) (shF F), 0, 0)) hc104 2 rfl trivial ?_
    refine R_ic (t := 14) hc104 rfl rfl (fun (z : (F 0) - 1 < 0) => absurd z (by omega)) (fun (_ : ¬ ((F 0) - 1 < 0)) => ?_)
    refine R_s (P := True) (f' := (15, [some (vI 0), some (vI 0), some (vI ((F 0) - 1))], [vI 1], LAY (u (shA A) 87 (wr (A 87) 3 ((rd (A 87) 3) + 1))) (shF F), 0, 0)) hc104 2 rfl trivial ?_
    refine R_retz hc104 rfl rfl (Or.inr rfl) ?_
    refine R_s (f' := (11, [some (vR 88), some (vI 0)], [vI 1], LAY (u (shA A) 87 (wr (A 87) 3 ((rd (A 87) 3) + 1))) (shF F), 0, 0)) hc108 0 rfl trivial ?_
    refine R_retz hc108 rfl rfl (Or.inr rfl) ?_
    refine R_s (f' := (5, [some (vR 88), some (vI 0), some (vI i), some (vI p), some (vI lw), none, none], [vI 1], LAY (u (shA A) 87 (wr (A 87) 3 ((rd (A 87) 3) + 1))) (shF F), 0, 0)) hc153 0 rfl trivial ?_
    refine R_if (t := 32) hc153 rfl rfl (fun (z : 1 = 0) => absurd z (by decide)) (fun (_ : ¬ (1 = 0)) => ?_)
    refine R_s (P := (0 ≤ 0 ∧ 0 < ((A 99).length : Int)) ∧ inI ((rd (A 99) 0) - 1) ∧ True) (f' := (18, [some (vR 88), some (vI 0), some (vI i), some (vI p), some (vI lw), none, none], [vI ((rd (A 99) 0) - 1), vI 0, vI i], LAY (u (shA A) 87 (wr (A 87) 3 ((rd (A 87) 3) + 1))) (shF F), 0, 0)) hc153 8 rfl ⟨⟨by omega, by omega⟩, ⟨by omega, by omega⟩, trivial⟩ ?_
    refine R_cs hc153 rfl rfl ?_ (fun r G h => h)
    refine R_s (P := True) (f' := (2, [some (vI i), some (vI 0), some (vI ((rd (A 99) 0) - 1))], [vI 0, vI i], LAY (u (shA A) 87 (wr (A 87) 3 ((rd (A 87) 3) + 1))) (shF F), 0, 0)) hc104 2 rfl trivial ?_
    refine R_ic (t := 14) hc104 rfl rfl (fun (_ : i < 0) => ?_) (fun (z : ¬ (i < 0)) => absurd (show i < 0 by omega) z)
    refine R_s (P := True) (f' := (15, [some (vI i), some (vI 0), some (vI ((rd (A 99) 0) - 1))], [vI 0], LAY (u (shA A) 87 (wr (A 87) 3 ((rd (A 87) 3) + 1))) (shF F), 0, 0)) hc104 1 rfl trivial ?_
    refine R_retz hc104 rfl rfl (Or.inl rfl) ?_
    refine R_s (f' := (21, [some (vR 88), some (vI 0), some (vI i), some (vI p), some (vI lw), none, none], [vI 0], LAY (u (shA A) 87 (wr (A 87) 3 ((rd (A 87) 3) + 1))) (shF F), 0, 0)) hc153 0 rfl trivial ?_
    refine R_if (t := 32) hc153 rfl rfl (fun (_ : 0 = 0) => ?_) (fun (z : ¬ (0 = 0)) => absurd (by decide) z)
    refine R_s (P := True) (f' := (35, [some (vR 88), some (vI 0), some (vI i), some (vI p), some (vI lw), none, none], [vI (-3), vR 88], LAY (u (shA A) 87 (wr (A 87) 3 ((rd (A 87) 3) + 1))) (shF F), 0, 0)) hc153 2 rfl trivial ?_
    refine R_cv hc153 rfl rfl ?_ (fun r G h => h)
    refine R_s (P := inI 3 ∧ (0 ≤ 3 ∧ 3 < ((A 87).length : Int)) ∧ inI ((rd (A 87) 3) + 1) ∧ (0 ≤ 3 ∧ 3 < ((A 87).length : Int)) ∧ True) (f' := (12, [some (vR 88), some (vI (-3))], [vI (-3)], LAY (u (u (shA A) 87 (wr (A 87) 3 ((rd (A 87) 3) + 1))) 89 (wr (A 87) 3 ((rd (A 87) 3) + 1))) (shF F), 0, 0)) hc105 10 rfl ⟨⟨by omega, by omega⟩, ⟨by omega, by omega⟩, ⟨by omega, by omega⟩, ⟨by omega, by omega⟩, trivial⟩ ?_
    refine R_reti hc105 rfl rfl ?_
    refine R_s (f' := (38, [some (vR 88), some (vI 0), some (vI i), some (vI p), some (vI lw), none, none], [vI (-3)], LAY (u (u (shA A) 87 (wr (A 87) 3 ((rd (A 87) 3) + 1))) 89 (wr (A 87) 3 ((rd (A 87) 3) + 1))) (shF F), 0, 0)) hc153 0 rfl trivial ?_
    refine R_s (P := True) (f' := (41, [some (vR 88), some (vI 0), some (vI i), some (vI p), some (vI lw), some (vI (-3)), none], [vJ 0], LAY (u (u (shA A) 87 (wr (A 87) 3 ((rd (A 87) 3) + 1))) 89 (wr (A 87) 3 ((rd (A 87) 3) + 1))) (shF F), 0, 0)) hc153 2 rfl trivial ?_
    refine R_retl hc153 rfl rfl ?_
    first
      | (exfalso; omega; done)
      | exact ⟨rfl, (u A 87 (wr (A 87) 3 ((rd (A 87) 3) + 1))), F, rfl, rfl, REL_ref hR0 (by decide) (by decide)⟩
  · refine R_s (P := True) (f' := (9, [some (vR 20), some (vI i)], [vI (F 8), vI i], LAY (shA A) (shF F), 0, 0)) hc1 3 rfl trivial ?_
    refine R_ic (t := 16) hc1 rfl rfl (fun (c5 : F 8 ≤ i) => ?_) (fun (c5 : ¬ (F 8 ≤ i)) => ?_)
    · refine R_s (P := True) (f' := (17, [some (vR 20), some (vI i)], [vI 0], LAY (shA A) (shF F), 0, 0)) hc1 1 rfl trivial ?_
      refine R_retz hc1 rfl rfl (Or.inl rfl) ?_
      refine R_s (f' := (18, [some (vR 1), some (vI 0), some (vI i), some (vI p), some (vI lw), some (vR 20), none], [vI 0], LAY (shA A) (shF F), 0, 0)) hc79 0 rfl trivial ?_
      refine R_if (t := 32) hc79 rfl rfl (fun (_ : 0 = 0) => ?_) (fun (z : ¬ (0 = 0)) => absurd (by decide) z)
      refine R_s (P := True) (f' := (35, [some (vR 1), some (vI 0), some (vI i), some (vI p), some (vI lw), some (vR 20), none], [vI (-3), vR 1], LAY (shA A) (shF F), 0, 0)) hc79 2 rfl trivial ?_
      refine R_cv hc79 rfl rfl ?_ (fun r G h => h)
      refine R_s (P := True) (f' := (3, [some (vR 1), some (vI (-3))], [vI (-2), vI (-3)], LAY (shA A) (shF F), 0, 0)) hc93 2 rfl trivial ?_
      refine R_ic (t := 23) hc93 rfl rfl (fun (z : (-2) < (-3)) => absurd z (by decide)) (fun (_ : ¬ ((-2) < (-3))) => ?_)
      refine R_s (P := True) (f' := (9, [some (vR 1), some (vI (-3))], [vI (-8), vI (-3)], LAY (shA A) (shF F), 0, 0)) hc93 2 rfl trivial ?_
      refine R_ic (t := 23) hc93 rfl rfl (fun (z : (-3) < (-8)) => absurd z (by decide)) (fun (_ : ¬ ((-3) < (-8))) => ?_)
      refine R_s (P := inI 3 ∧ (0 ≤ 3 ∧ 3 < ((A 87).length : Int)) ∧ inI ((rd (A 87) 3) + 1) ∧ (0 ≤ 3 ∧ 3 < ((A 87).length : Int)) ∧ True) (f' := (24, [some (vR 1), some (vI (-3))], [vI (-3)], LAY (u (shA A) 87 (wr (A 87) 3 ((rd (A 87) 3) + 1))) (shF F), 0, 0)) hc93 10 rfl ⟨⟨by omega, by omega⟩, ⟨by omega, by omega⟩, ⟨by omega, by omega⟩, ⟨by omega, by omega⟩, trivial⟩ ?_
      refine R_reti hc93 rfl rfl ?_
      refine R_s (f' := (38, [some (vR 1), some (vI 0), some (vI i), some (vI p), some (vI lw), some (vR 20), none], [vI (-3)], LAY (u (shA A) 87 (wr (A 87) 3 ((rd (A 87) 3) + 1))) (shF F), 0, 0)) hc79 0 rfl trivial ?_
      refine R_s (P := True) (f' := (40, [some (vR 1), some (vI 0), some (vI i), some (vI p), some (vI lw), some (vR 20), none], [vJ 0], LAY (u (shA A) 87 (wr (A 87) 3 ((rd (A 87) 3) + 1))) (shF F), 0, 0)) hc79 2 rfl trivial ?_
      refine R_retl hc79 rfl rfl ?_
      refine R_s (P := True) (f' := (2, [some (vR 88), some (vI 0), some (vI i), some (vI p), some (vI lw), none, none], [vI 0, vR 88], LAY (u (shA A) 87 (wr (A 87) 3 ((rd (A 87) 3) + 1))) (shF F), 0, 0)) hc153 2 rfl trivial ?_
      refine R_cv hc153 rfl rfl ?_ (fun r G h => h)
      refine R_s (P := inI ((F 0) - 1) ∧ True) (f' := (8, [some (vR 88), some (vI 0)], [vI ((F 0) - 1), vI 0, vI 0], LAY (u (shA A) 87 (wr (A 87) 3 ((rd (A 87) 3) + 1))) (shF F), 0, 0)) hc108 6 rfl ⟨⟨by omega, by omega⟩, trivial⟩ ?_
      refine R_cs hc108 rfl rfl ?_ (fun r G h => h)
      refine R_s (P := True) (f' := (2, [some (vI 0), some (vI 0), some (vI ((F 0) - 1))], [vI 0, vI 0], LAY (u (shA A) 87 (wr (A 87) 3 ((rd (A 87) 3) + 1))) (shF F), 0, 0)) hc104 2 rfl trivial ?_
      refine R_ic (t := 14) hc104 rfl rfl (fun (z : 0 < 0) => absurd z (by decide)) (fun (_ : ¬ (0 < 0)) => ?_)
      refine R_s (P := True) (f' := (7, [some (vI 0), some (vI 0), some (vI ((F 0) - 1))], [vI ((F 0) - 1), vI 0], LAY (u (shA A) 87 (wr (A 87) 3 ((rd (A 87) 3) + 1))) (shF F), 0, 0)) hc104 2 rfl trivial ?_
      refine R_ic (t := 14) hc104 rfl rfl (fun (z : (F 0) - 1 < 0) => absurd z (by omega)) (fun (_ : ¬ ((F 0) - 1 < 0)) => ?_)
      refine R_s (P := True) (f' := (15, [some (vI 0), some (vI 0), some (vI ((F 0) - 1))], [vI 1], LAY (u (shA A) 87 (wr (A 87) 3 ((rd (A 87) 3) + 1))) (shF F), 0, 0)) hc104 2 rfl trivial ?_
      refine R_retz hc104 rfl rfl (Or.inr rfl) ?_
      refine R_s (f' := (11, [some (vR 88), some (vI 0)], [vI 1], LAY (u (shA A) 87 (wr (A 87) 3 ((rd (A 87) 3) + 1))) (shF F), 0, 0)) hc108 0 rfl trivial ?_
      refine R_retz hc108 rfl rfl (Or.inr rfl) ?_
      refine R_s (f' := (5, [some (vR 88), some (vI 0), some (vI i), some (vI p), some (vI lw), none, none], [vI 1], LAY (u (shA A) 87 (wr (A 87) 3 ((rd (A 87) 3) + 1))) (shF F), 0, 0)) hc153 0 rfl trivial ?_
      refine R_if (t := 32) hc153 rfl rfl (fun (z : 1 = 0) => absurd z (by decide)) (fun (_ : ¬ (1 = 0)) => ?_)
      refine R_s (P := (0 ≤ 0 ∧ 0 < ((A 99).length : Int)) ∧ inI ((rd (A 99) 0) - 1) ∧ True) (f' := (18, [some (vR 88), some (vI 0), some (vI i), some (vI p), some (vI lw), none, none], [vI ((rd (A 99) 0) - 1), vI 0, vI i], LAY (u (shA A) 87 (wr (A 87) 3 ((rd (A 87) 3) + 1))) (shF F), 0, 0)) hc153 8 rfl ⟨⟨by omega, by omega⟩, ⟨by omega, by omega⟩, trivial⟩ ?_
      refine R_cs hc153 rfl rfl ?_ (fun r G h => h)
      refine R_s (P := True) (f' := (2, [some (vI i), some (vI 0), some (vI ((rd (A 99) 0) - 1))], [vI 0, vI i], LAY (u (shA A) 87 (wr (A 87) 3 ((rd (A 87) 3) + 1))) (shF F), 0, 0)) hc104 2 rfl trivial ?_
      refine R_ic (t := 14) hc104 rfl rfl (fun (z : i < 0) => absurd z (by omega)) (fun (_ : ¬ (i < 0)) => ?_)
      refine R_s (P := True) (f' := (7, [some (vI i), some (vI 0), some (vI ((rd (A 99) 0) - 1))], [vI ((rd (A 99) 0) - 1), vI i], LAY (u (shA A) 87 (wr (A 87) 3 ((rd (A 87) 3) + 1))) (shF F), 0, 0)) hc104 2 rfl trivial ?_
      refine R_ic (t := 14) hc104 rfl rfl (fun (_ : (rd (A 99) 0) - 1 < i) => ?_) (fun (z : ¬ ((rd (A 99) 0) - 1 < i)) => absurd (show (rd (A 99) 0) - 1 < i by omega) z)
      refine R_s (P := True) (f' := (15, [some (vI i), some (vI 0), some (vI ((rd (A 99) 0) - 1))], [vI 0], LAY (u (shA A) 87 (wr (A 87) 3 ((rd (A 87) 3) + 1))) (shF F), 0, 0)) hc104 1 rfl trivial ?_
      refine R_retz hc104 rfl rfl (Or.inl rfl) ?_
      refine R_s (f' := (21, [some (vR 88), some (vI 0), some (vI i), some (vI p), some (vI lw), none, none], [vI 0], LAY (u (shA A) 87 (wr (A 87) 3 ((rd (A 87) 3) + 1))) (shF F), 0, 0)) hc153 0 rfl trivial ?_
      refine R_if (t := 32) hc153 rfl rfl (fun (_ : 0 = 0) => ?_) (fun (z : ¬ (0 = 0)) => absurd (by decide) z)
      refine R_s (P := True) (f' := (35, [some (vR 88), some (vI 0), some (vI i), some (vI p), some (vI lw), none, none], [vI (-3), vR 88], LAY (u (shA A) 87 (wr (A 87) 3 ((rd (A 87) 3) + 1))) (shF F), 0, 0)) hc153 2 rfl trivial ?_
      refine R_cv hc153 rfl rfl ?_ (fun r G h => h)
      refine R_s (P := inI 3 ∧ (0 ≤ 3 ∧ 3 < ((A 87).length : Int)) ∧ inI ((rd (A 87) 3) + 1) ∧ (0 ≤ 3 ∧ 3 < ((A 87).length : Int)) ∧ True) (f' := (12, [some (vR 88), some (vI (-3))], [vI (-3)], LAY (u (u (shA A) 87 (wr (A 87) 3 ((rd (A 87) 3) + 1))) 89 (wr (A 87) 3 ((rd (A 87) 3) + 1))) (shF F), 0, 0)) hc105 10 rfl ⟨⟨by omega, by omega⟩, ⟨by omega, by omega⟩, ⟨by omega, by omega⟩, ⟨by omega, by omega⟩, trivial⟩ ?_
      refine R_reti hc105 rfl rfl ?_
      refine R_s (f' := (38, [some (vR 88), some (vI 0), some (vI i), some (vI p), some (vI lw), none, none], [vI (-3)], LAY (u (u (shA A) 87 (wr (A 87) 3 ((rd (A 87) 3) + 1))) 89 (wr (A 87) 3 ((rd (A 87) 3) + 1))) (shF F), 0, 0)) hc153 0 rfl trivial ?_
      refine R_s (P := True) (f' := (41, [some (vR 88), some (vI 0), some (vI i), some (vI p), some (vI lw), some (vI (-3)), none], [vJ 0], LAY (u (u (shA A) 87 (wr (A 87) 3 ((rd (A 87) 3) + 1))) 89 (wr (A 87) 3 ((rd (A 87) 3) + 1))) (shF F), 0, 0)) hc153 2 rfl trivial ?_
      refine R_retl hc153 rfl rfl ?_
      first
        | (exfalso; omega; done)
        | exact ⟨rfl, (u A 87 (wr (A 87) 3 ((rd (A 87) 3) + 1))), F, rfl, rfl, REL_ref hR0 (by decide) (by decide)⟩
    · refine R_s (P := True) (f' := (17, [some (vR 20), some (vI i)], [vI 1], LAY (shA A) (shF F), 0, 0)) hc1 2 rfl trivial ?_
      refine R_retz hc1 rfl rfl (Or.inr rfl) ?_
      refine R_s (f' := (18, [some (vR 1), some (vI 0), some (vI i), some (vI p), some (vI lw), some (vR 20), none], [vI 1], LAY (shA A) (shF F), 0, 0)) hc79 0 rfl trivial ?_
      refine R_if (t := 32) hc79 rfl rfl (fun (z : 1 = 0) => absurd z (by decide)) (fun (_ : ¬ (1 = 0)) => ?_)
      refine R_s (P := True) (f' := (26, [some (vR 1), some (vI 0), some (vI i), some (vI p), some (vI lw), some (vR 20), none], [vI p, vR 2], LAY (shA A) (shF F), 0, 0)) hc79 3 rfl trivial ?_
      refine R_cv hc79 rfl rfl ?_ (fun r G h => h)
      refine R_s (P := True) (f' := (1, [some (vR 2), some (vI p)], [vI p], LAY (shA A) (shF F), 0, 0)) hc5 1 rfl trivial ?_
      refine R_if (t := 16) hc5 rfl rfl (fun (c7 : p < 0) => ?_) (fun (c7 : ¬ (p < 0)) => ?_)
      · refine R_s (P := True) (f' := (17, [some (vR 2), some (vI p)], [vI 0], LAY (shA A) (shF F), 0, 0)) hc5 1 rfl trivial ?_
        refine R_retz hc5 rfl rfl (Or.inl rfl) ?_
        refine R_s (f' := (29, [some (vR 1), some (vI 0), some (vI i), some (vI p), some (vI lw), some (vR 20), none], [vI 0], LAY (shA A) (shF F), 0, 0)) hc79 0 rfl trivial ?_
        refine R_if (t := 41) hc79 rfl rfl (fun (z : ¬ 0 = 0) => absurd z (by decide)) (fun (_ : ¬ (¬ 0 = 0)) => ?_)
        refine R_s (P := True) (f' := (35, [some (vR 1), some (vI 0), some (vI i), some (vI p), some (vI lw), some (vR 20), none], [vI (-3), vR 1], LAY (shA A) (shF F), 0, 0)) hc79 2 rfl trivial ?_
        refine R_cv hc79 rfl rfl ?_ (fun r G h => h)
        refine R_s (P := True) (f' := (3, [some (vR 1), some (vI (-3))], [vI (-2), vI (-3)], LAY (shA A) (shF F), 0, 0)) hc93 2 rfl trivial ?_
        refine R_ic (t := 23) hc93 rfl rfl (fun (z : (-2) < (-3)) => absurd z (by decide)) (fun (_ : ¬ ((-2) < (-3))) => ?_)
        refine R_s (P := True) (f' := (9, [some (vR 1), some (vI (-3))], [vI (-8), vI (-3)], LAY (shA A) (shF F), 0, 0)) hc93 2 rfl trivial ?_
        refine R_ic (t := 23) hc93 rfl rfl (fun (z : (-3) < (-8)) => absurd z (by decide)) (fun (_ : ¬ ((-3) < (-8))) => ?_)
        refine R_s (P := inI 3 ∧ (0 ≤ 3 ∧ 3 < ((A 87).length : Int)) ∧ inI ((rd (A 87) 3) + 1) ∧ (0 ≤ 3 ∧ 3 < ((A 87).length : Int)) ∧ True) (f' := (24, [some (vR 1), some (vI (-3))], [vI (-3)], LAY (u (shA A) 87 (wr (A 87) 3 ((rd (A 87) 3) + 1))) (shF F), 0, 0)) hc93 10 rfl ⟨⟨by omega, by omega⟩, ⟨by omega, by omega⟩, ⟨by omega, by omega⟩, ⟨by omega, by omega⟩, trivial⟩ ?_
        refine R_reti hc93 rfl rfl ?_
        refine R_s (f' := (38, [some (vR 1), some (vI 0), some (vI i), some (vI p), some (vI lw), some (vR 20), none], [vI (-3)], LAY (u (shA A) 87 (wr (A 87) 3 ((rd (A 87) 3) + 1))) (shF F), 0, 0)) hc79 0 rfl trivial ?_
        refine R_s (P := True) (f' := (40, [some (vR 1), some (vI 0), some (vI i), some (vI p), some (vI lw), some (vR 20), none], [vJ 0], LAY (u (shA A) 87 (wr (A 87) 3 ((rd (A 87) 3) + 1))) (shF F), 0, 0)) hc79 2 rfl trivial ?_
        refine R_retl hc79 rfl rfl ?_
        refine R_s (P := True) (f' := (2, [some (vR 88), some (vI 0), some (vI i), some (vI p), some (vI lw), none, none], [vI 0, vR 88], LAY (u (shA A) 87 (wr (A 87) 3 ((rd (A 87) 3) + 1))) (shF F), 0, 0)) hc153 2 rfl trivial ?_
        refine R_cv hc153 rfl rfl ?_ (fun r G h => h)
        refine R_s (P := inI ((F 0) - 1) ∧ True) (f' := (8, [some (vR 88), some (vI 0)], [vI ((F 0) - 1), vI 0, vI 0], LAY (u (shA A) 87 (wr (A 87) 3 ((rd (A 87) 3) + 1))) (shF F), 0, 0)) hc108 6 rfl ⟨⟨by omega, by omega⟩, trivial⟩ ?_
        refine R_cs hc108 rfl rfl ?_ (fun r G h => h)
        refine R_s (P := True) (f' := (2, [some (vI 0), some (vI 0), some (vI ((F 0) - 1))], [vI 0, vI 0], LAY (u (shA A) 87 (wr (A 87) 3 ((rd (A 87) 3) + 1))) (shF F), 0, 0)) hc104 2 rfl trivial ?_
        refine R_ic (t := 14) hc104 rfl rfl (fun (z : 0 < 0) => absurd z (by decide)) (fun (_ : ¬ (0 < 0)) => ?_)
        refine R_s (P := True) (f' := (7, [some (vI 0), some (vI 0), some (vI ((F 0) - 1))], [vI ((F 0) - 1), vI 0], LAY (u (shA A) 87 (wr (A 87) 3 ((rd (A 87) 3) + 1))) (shF F), 0, 0)) hc104 2 rfl trivial ?_
        refine R_ic (t := 14) hc104 rfl rfl (fun (z : (F 0) - 1 < 0) => absurd z (by omega)) (fun (_ : ¬ ((F 0) - 1 < 0)) => ?_)
        refine R_s (P := True) (f' := (15, [some (vI 0), some (vI 0), some (vI ((F 0) - 1))], [vI 1], LAY (u (shA A) 87 (wr (A 87) 3 ((rd (A 87) 3) + 1))) (shF F), 0, 0)) hc104 2 rfl trivial ?_
        refine R_retz hc104 rfl rfl (Or.inr rfl) ?_
        refine R_s (f' := (11, [some (vR 88), some (vI 0)], [vI 1], LAY (u (shA A) 87 (wr (A 87) 3 ((rd (A 87) 3) + 1))) (shF F), 0, 0)) hc108 0 rfl trivial ?_
        refine R_retz hc108 rfl rfl (Or.inr rfl) ?_
        refine R_s (f' := (5, [some (vR 88), some (vI 0), some (vI i), some (vI p), some (vI lw), none, none], [vI 1], LAY (u (shA A) 87 (wr (A 87) 3 ((rd (A 87) 3) + 1))) (shF F), 0, 0)) hc153 0 rfl trivial ?_
        refine R_if (t := 32) hc153 rfl rfl (fun (z : 1 = 0) => absurd z (by decide)) (fun (_ : ¬ (1 = 0)) => ?_)
        refine R_s (P := (0 ≤ 0 ∧ 0 < ((A 99).length : Int)) ∧ inI ((rd (A 99) 0) - 1) ∧ True) (f' := (18, [some (vR 88), some (vI 0), some (vI i), some (vI p), some (vI lw), none, none], [vI ((rd (A 99) 0) - 1), vI 0, vI i], LAY (u (shA A) 87 (wr (A 87) 3 ((rd (A 87) 3) + 1))) (shF F), 0, 0)) hc153 8 rfl ⟨⟨by omega, by omega⟩, ⟨by omega, by omega⟩, trivial⟩ ?_
        refine R_cs hc153 rfl rfl ?_ (fun r G h => h)
        refine R_s (P := True) (f' := (2, [some (vI i), some (vI 0), some (vI ((rd (A 99) 0) - 1))], [vI 0, vI i], LAY (u (shA A) 87 (wr (A 87) 3 ((rd (A 87) 3) + 1))) (shF F), 0, 0)) hc104 2 rfl trivial ?_
        refine R_ic (t := 14) hc104 rfl rfl (fun (z : i < 0) => absurd z (by omega)) (fun (_ : ¬ (i < 0)) => ?_)
        refine R_s (P := True) (f' := (7, [some (vI i), some (vI 0), some (vI ((rd (A 99) 0) - 1))], [vI ((rd (A 99) 0) - 1), vI i], LAY (u (shA A) 87 (wr (A 87) 3 ((rd (A 87) 3) + 1))) (shF F), 0, 0)) hc104 2 rfl trivial ?_
        refine R_ic (t := 14) hc104 rfl rfl (fun (z : (rd (A 99) 0) - 1 < i) => absurd z (by omega)) (fun (_ : ¬ ((rd (A 99) 0) - 1 < i)) => ?_)
        refine R_s (P := True) (f' := (15, [some (vI i), some (vI 0), some (vI ((rd (A 99) 0) - 1))], [vI 1], LAY (u (shA A) 87 (wr (A 87) 3 ((rd (A 87) 3) + 1))) (shF F), 0, 0)) hc104 2 rfl trivial ?_
        refine R_retz hc104 rfl rfl (Or.inr rfl) ?_
        refine R_s (f' := (21, [some (vR 88), some (vI 0), some (vI i), some (vI p), some (vI lw), none, none], [vI 1], LAY (u (shA A) 87 (wr (A 87) 3 ((rd (A 87) 3) + 1))) (shF F), 0, 0)) hc153 0 rfl trivial ?_
        refine R_if (t := 32) hc153 rfl rfl (fun (z : 1 = 0) => absurd z (by decide)) (fun (_ : ¬ (1 = 0)) => ?_)
        refine R_s (P := True) (f' := (26, [some (vR 88), some (vI 0), some (vI i), some (vI p), some (vI lw), none, none], [vI p, vR 88], LAY (u (shA A) 87 (wr (A 87) 3 ((rd (A 87) 3) + 1))) (shF F), 0, 0)) hc153 2 rfl trivial ?_
        refine R_cv hc153 rfl rfl ?_ (fun r G h => h)
        refine R_s (P := inI ((F 3) - 1) ∧ True) (f' := (8, [some (vR 88), some (vI p)], [vI ((F 3) - 1), vI 0, vI p], LAY (u (shA A) 87 (wr (A 87) 3 ((rd (A 87) 3) + 1))) (shF F), 0, 0)) hc106 6 rfl ⟨⟨by omega, by omega⟩, trivial⟩ ?_
        refine R_cs hc106 rfl rfl ?_ (fun r G h => h)
        refine R_s (P := True) (f' := (2, [some (vI p), some (vI 0), some (vI ((F 3) - 1))], [vI 0, vI p], LAY (u (shA A) 87 (wr (A 87) 3 ((rd (A 87) 3) + 1))) (shF F), 0, 0)) hc104 2 rfl trivial ?_
        refine R_ic (t := 14) hc104 rfl rfl (fun (_ : p < 0) => ?_) (fun (z : ¬ (p < 0)) => absurd (show p < 0 by omega) z)
        refine R_s (P := True) (f' := (15, [some (vI p), some (vI 0), some (vI ((F 3) - 1))], [vI 0], LAY (u (shA A) 87 (wr (A 87) 3 ((rd (A 87) 3) + 1))) (shF F), 0, 0)) hc104 1 rfl trivial ?_
        refine R_retz hc104 rfl rfl (Or.inl rfl) ?_
        refine R_s (f' := (11, [some (vR 88), some (vI p)], [vI 0], LAY (u (shA A) 87 (wr (A 87) 3 ((rd (A 87) 3) + 1))) (shF F), 0, 0)) hc106 0 rfl trivial ?_
        refine R_retz hc106 rfl rfl (Or.inl rfl) ?_
        refine R_s (f' := (29, [some (vR 88), some (vI 0), some (vI i), some (vI p), some (vI lw), none, none], [vI 0], LAY (u (shA A) 87 (wr (A 87) 3 ((rd (A 87) 3) + 1))) (shF F), 0, 0)) hc153 0 rfl trivial ?_
        refine R_if (t := 42) hc153 rfl rfl (fun (z : ¬ 0 = 0) => absurd z (by decide)) (fun (_ : ¬ (¬ 0 = 0)) => ?_)
        refine R_s (P := True) (f' := (35, [some (vR 88), some (vI 0), some (vI i), some (vI p), some (vI lw), none, none], [vI (-3), vR 88], LAY (u (shA A) 87 (wr (A 87) 3 ((rd (A 87) 3) + 1))) (shF F), 0, 0)) hc153 2 rfl trivial ?_
        refine R_cv hc153 rfl rfl ?_ (fun r G h => h)
        refine R_s (P := inI 3 ∧ (0 ≤ 3 ∧ 3 < ((A 87).length : Int)) ∧ inI ((rd (A 87) 3) + 1) ∧ (0 ≤ 3 ∧ 3 < ((A 87).length : Int)) ∧ True) (f' := (12, [some (vR 88), some (vI (-3))], [vI (-3)], LAY (u (u (shA A) 87 (wr (A 87) 3 ((rd (A 87) 3) + 1))) 89 (wr (A 87) 3 ((rd (A 87) 3) + 1))) (shF F), 0, 0)) hc105 10 rfl ⟨⟨by omega, by omega⟩, ⟨by omega, by omega⟩, ⟨by omega, by omega⟩, ⟨by omega, by omega⟩, trivial⟩ ?_
        refine R_reti hc105 rfl rfl ?_
        refine R_s (f' := (38, [some (vR 88), some (vI 0), some (vI i), some (vI p), some (vI lw), none, none], [vI (-3)], LAY (u (u (shA A) 87 (wr (A 87) 3 ((rd (A 87) 3) + 1))) 89 (wr (A 87) 3 ((rd (A 87) 3) + 1))) (shF F), 0, 0)) hc153 0 rfl trivial ?_
        refine R_s (P := True) (f' := (41, [some (vR 88), some (vI 0), some (vI i), some (vI p), some (vI lw), some (vI (-3)), none], [vJ 0], LAY (u (u (shA A) 87 (wr (A 87) 3 ((rd (A 87) 3) + 1))) 89 (wr (A 87) 3 ((rd (A 87) 3) + 1))) (shF F), 0, 0)) hc153 2 rfl trivial ?_
        refine R_retl hc153 rfl rfl ?_
        first
          | (exfalso; omega; done)
          | exact ⟨rfl, (u A 87 (wr (A 87) 3 ((rd (A 87) 3) + 1))), F, rfl, rfl, REL_ref hR0 (by decide) (by decide)⟩
      · refine R_s (P := True) (f' := (9, [some (vR 2), some (vI p)], [vI (F 3), vI p], LAY (shA A) (shF F), 0, 0)) hc5 3 rfl trivial ?_
        refine R_ic (t := 16) hc5 rfl rfl (fun (c8 : F 3 ≤ p) => ?_) (fun (c8 : ¬ (F 3 ≤ p)) => ?_)
        · refine R_s (P := True) (f' := (17, [some (vR 2), some (vI p)], [vI 0], LAY (shA A) (shF F), 0, 0)) hc5 1 rfl trivial ?_
          refine R_retz hc5 rfl rfl (Or.inl rfl) ?_
          refine R_s (f' := (29, [some (vR 1), some (vI 0), some (vI i), some (vI p), some (vI lw), some (vR 20), none], [vI 0], LAY (shA A) (shF F), 0, 0)) hc79 0 rfl trivial ?_
          refine R_if (t := 41) hc79 rfl rfl (fun (z : ¬ 0 = 0) => absurd z (by decide)) (fun (_ : ¬ (¬ 0 = 0)) => ?_)
          refine R_s (P := True) (f' := (35, [some (vR 1), some (vI 0), some (vI i), some (vI p), some (vI lw), some (vR 20), none], [vI (-3), vR 1], LAY (shA A) (shF F), 0, 0)) hc79 2 rfl trivial ?_
          refine R_cv hc79 rfl rfl ?_ (fun r G h => h)
          refine R_s (P := True) (f' := (3, [some (vR 1), some (vI (-3))], [vI (-2), vI (-3)], LAY (shA A) (shF F), 0, 0)) hc93 2 rfl trivial ?_
          refine R_ic (t := 23) hc93 rfl rfl (fun (z : (-2) < (-3)) => absurd z (by decide)) (fun (_ : ¬ ((-2) < (-3))) => ?_)
          refine R_s (P := True) (f' := (9, [some (vR 1), some (vI (-3))], [vI (-8), vI (-3)], LAY (shA A) (shF F), 0, 0)) hc93 2 rfl trivial ?_
          refine R_ic (t := 23) hc93 rfl rfl (fun (z : (-3) < (-8)) => absurd z (by decide)) (fun (_ : ¬ ((-3) < (-8))) => ?_)
          refine R_s (P := inI 3 ∧ (0 ≤ 3 ∧ 3 < ((A 87).length : Int)) ∧ inI ((rd (A 87) 3) + 1) ∧ (0 ≤ 3 ∧ 3 < ((A 87).length : Int)) ∧ True) (f' := (24, [some (vR 1), some (vI (-3))], [vI (-3)], LAY (u (shA A) 87 (wr (A 87) 3 ((rd (A 87) 3) + 1))) (shF F), 0, 0)) hc93 10 rfl ⟨⟨by omega, by omega⟩, ⟨by omega, by omega⟩, ⟨by omega, by omega⟩, ⟨by omega, by omega⟩, trivial⟩ ?_
          refine R_reti hc93 rfl rfl ?_
          refine R_s (f' := (38, [some (vR 1), some (vI 0), some (vI i), some (vI p), some (vI lw), some (vR 20), none], [vI (-3)], LAY (u (shA A) 87 (wr (A 87) 3 ((rd (A 87) 3) + 1))) (shF F), 0, 0)) hc79 0 rfl trivial ?_
          refine R_s (P := True) (f' := (40, [some (vR 1), some (vI 0), some (vI i), some (vI p), some (vI lw), some (vR 20), none], [vJ 0], LAY (u (shA A) 87 (wr (A 87) 3 ((rd (A 87) 3) + 1))) (shF F), 0, 0)) hc79 2 rfl trivial ?_
          refine R_retl hc79 rfl rfl ?_
          refine R_s (P := True) (f' := (2, [some (vR 88), some (vI 0), some (vI i), some (vI p), some (vI lw), none, none], [vI 0, vR 88], LAY (u (shA A) 87 (wr (A 87) 3 ((rd (A 87) 3) + 1))) (shF F), 0, 0)) hc153 2 rfl trivial ?_
          refine R_cv hc153 rfl rfl ?_ (fun r G h => h)
          refine R_s (P := inI ((F 0) - 1) ∧ True) (f' := (8, [some (vR 88), some (vI 0)], [vI ((F 0) - 1), vI 0, vI 0], LAY (u (shA A) 87 (wr (A 87) 3 ((rd (A 87) 3) + 1))) (shF F), 0, 0)) hc108 6 rfl ⟨⟨by omega, by omega⟩, trivial⟩ ?_
          refine R_cs hc108 rfl rfl ?_ (fun r G h => h)
          refine R_s (P := True) (f' := (2, [some (vI 0), some (vI 0), some (vI ((F 0) - 1))], [vI 0, vI 0], LAY (u (shA A) 87 (wr (A 87) 3 ((rd (A 87) 3) + 1))) (shF F), 0, 0)) hc104 2 rfl trivial ?_
          refine R_ic (t := 14) hc104 rfl rfl (fun (z : 0 < 0) => absurd z (by decide)) (fun (_ : ¬ (0 < 0)) => ?_)
          refine R_s (P := True) (f' := (7, [some (vI 0), some (vI 0), some (vI ((F 0) - 1))], [vI ((F 0) - 1), vI 0], LAY (u (shA A) 87 (wr (A 87) 3 ((rd (A 87) 3) + 1))) (shF F), 0, 0)) hc104 2 rfl trivial ?_
          refine R_ic (t := 14) hc104 rfl rfl (fun (z : (F 0) - 1 < 0) => absurd z (by omega)) (fun (_ : ¬ ((F 0) - 1 < 0)) => ?_)
          refine R_s (P := True) (f' := (15, [some (vI 0), some (vI 0), some (vI ((F 0) - 1))], [vI 1], LAY (u (shA A) 87 (wr (A 87) 3 ((rd (A 87) 3) + 1))) (shF F), 0, 0)) hc104 2 rfl trivial ?_
          refine R_retz hc104 rfl rfl (Or.inr rfl) ?_
          refine R_s (f' := (11, [some (vR 88), some (vI 0)], [vI 1], LAY (u (shA A) 87 (wr (A 87) 3 ((rd (A 87) 3) + 1))) (shF F), 0, 0)) hc108 0 rfl trivial ?_
          refine R_retz hc108 rfl rfl (Or.inr rfl) ?_
          refine R_s (f' := (5, [some (vR 88), some (vI 0), some (vI i), some (vI p), some (vI lw), none, none], [vI 1], LAY (u (shA A) 87 (wr (A 87) 3 ((rd (A 87) 3) + 1))) (shF F), 0, 0)) hc153 0 rfl trivial ?_
          refine R_if (t := 32) hc153 rfl rfl (fun (z : 1 = 0) => absurd z (by decide)) (fun (_ : ¬ (1 = 0)) => ?_)
          refine R_s (P := (0 ≤ 0 ∧ 0 < ((A 99).length : Int)) ∧ inI ((rd (A 99) 0) - 1) ∧ True) (f' := (18, [some (vR 88), some (vI 0), some (vI i), some (vI p), some (vI lw), none, none], [vI ((rd (A 99) 0) - 1), vI 0, vI i], LAY (u (shA A) 87 (wr (A 87) 3 ((rd (A 87) 3) + 1))) (shF F), 0, 0)) hc153 8 rfl ⟨⟨by omega, by omega⟩, ⟨by omega, by omega⟩, trivial⟩ ?_
          refine R_cs hc153 rfl rfl ?_ (fun r G h => h)
          refine R_s (P := True) (f' := (2, [some (vI i), some (vI 0), some (vI ((rd (A 99) 0) - 1))], [vI 0, vI i], LAY (u (shA A) 87 (wr (A 87) 3 ((rd (A 87) 3) + 1))) (shF F), 0, 0)) hc104 2 rfl trivial ?_
          refine R_ic (t := 14) hc104 rfl rfl (fun (z : i < 0) => absurd z (by omega)) (fun (_ : ¬ (i < 0)) => ?_)
          refine R_s (P := True) (f' := (7, [some (vI i), some (vI 0), some (vI ((rd (A 99) 0) - 1))], [vI ((rd (A 99) 0) - 1), vI i], LAY (u (shA A) 87 (wr (A 87) 3 ((rd (A 87) 3) + 1))) (shF F), 0, 0)) hc104 2 rfl trivial ?_
          refine R_ic (t := 14) hc104 rfl rfl (fun (z : (rd (A 99) 0) - 1 < i) => absurd z (by omega)) (fun (_ : ¬ ((rd (A 99) 0) - 1 < i)) => ?_)
          refine R_s (P := True) (f' := (15, [some (vI i), some (vI 0), some (vI ((rd (A 99) 0) - 1))], [vI 1], LAY (u (shA A) 87 (wr (A 87) 3 ((rd (A 87) 3) + 1))) (shF F), 0, 0)) hc104 2 rfl trivial ?_
          refine R_retz hc104 rfl rfl (Or.inr rfl) ?_
          refine R_s (f' := (21, [some (vR 88), some (vI 0), some (vI i), some (vI p), some (vI lw), none, none], [vI 1], LAY (u (shA A) 87 (wr (A 87) 3 ((rd (A 87) 3) + 1))) (shF F), 0, 0)) hc153 0 rfl trivial ?_
          refine R_if (t := 32) hc153 rfl rfl (fun (z : 1 = 0) => absurd z (by decide)) (fun (_ : ¬ (1 = 0)) => ?_)
          refine R_s (P := True) (f' := (26, [some (vR 88), some (vI 0), some (vI i), some (vI p), some (vI lw), none, none], [vI p, vR 88], LAY (u (shA A) 87 (wr (A 87) 3 ((rd (A 87) 3) + 1))) (shF F), 0, 0)) hc153 2 rfl trivial ?_
          refine R_cv hc153 rfl rfl ?_ (fun r G h => h)
          refine R_s (P := inI ((F 3) - 1) ∧ True) (f' := (8, [some (vR 88), some (vI p)], [vI ((F 3) - 1), vI 0, vI p], LAY (u (shA A) 87 (wr (A 87) 3 ((rd (A 87) 3) + 1))) (shF F), 0, 0)) hc106 6 rfl ⟨⟨by omega, by omega⟩, trivial⟩ ?_
          refine R_cs hc106 rfl rfl ?_ (fun r G h => h)
          refine R_s (P := True) (f' := (2, [some (vI p), some (vI 0), some (vI ((F 3) - 1))], [vI 0, vI p], LAY (u (shA A) 87 (wr (A 87) 3 ((rd (A 87) 3) + 1))) (shF F), 0, 0)) hc104 2 rfl trivial ?_
          refine R_ic (t := 14) hc104 rfl rfl (fun (z : p < 0) => absurd z (by omega)) (fun (_ : ¬ (p < 0)) => ?_)
          refine R_s (P := True) (f' := (7, [some (vI p), some (vI 0), some (vI ((F 3) - 1))], [vI ((F 3) - 1), vI p], LAY (u (shA A) 87 (wr (A 87) 3 ((rd (A 87) 3) + 1))) (shF F), 0, 0)) hc104 2 rfl trivial ?_
          refine R_ic (t := 14) hc104 rfl rfl (fun (_ : (F 3) - 1 < p) => ?_) (fun (z : ¬ ((F 3) - 1 < p)) => absurd (show (F 3) - 1 < p by omega) z)
          refine R_s (P := True) (f' := (15, [some (vI p), some (vI 0), some (vI ((F 3) - 1))], [vI 0], LAY (u (shA A) 87 (wr (A 87) 3 ((rd (A 87) 3) + 1))) (shF F), 0, 0)) hc104 1 rfl trivial ?_
          refine R_retz hc104 rfl rfl (Or.inl rfl) ?_
          refine R_s (f' := (11, [some (vR 88), some (vI p)], [vI 0], LAY (u (shA A) 87 (wr (A 87) 3 ((rd (A 87) 3) + 1))) (shF F), 0, 0)) hc106 0 rfl trivial ?_
          refine R_retz hc106 rfl rfl (Or.inl rfl) ?_
          refine R_s (f' := (29, [some (vR 88), some (vI 0), some (vI i), some (vI p), some (vI lw), none, none], [vI 0], LAY (u (shA A) 87 (wr (A 87) 3 ((rd (A 87) 3) + 1))) (shF F), 0, 0)) hc153 0 rfl trivial ?_
          refine R_if (t := 42) hc153 rfl rfl (fun (z : ¬ 0 = 0) => absurd z (by decide)) (fun (_ : ¬ (¬ 0 = 0)) => ?_)
          refine R_s (P := True) (f' := (35, [some (vR 88), some (vI 0), some (vI i), some (vI p), some (vI lw), none, none], [vI (-3), vR 88], LAY (u (shA A) 87 (wr (A 87) 3 ((rd (A 87) 3) + 1))) (shF F), 0, 0)) hc153 2 rfl trivial ?_
          refine R_cv hc153 rfl rfl ?_ (fun r G h => h)
          refine R_s (P := inI 3 ∧ (0 ≤ 3 ∧ 3 < ((A 87).length : Int)) ∧ inI ((rd (A 87) 3) + 1) ∧ (0 ≤ 3 ∧ 3 < ((A 87).length : Int)) ∧ True) (f' := (12, [some (vR 88), some (vI (-3))], [vI (-3)], LAY (u (u (shA A) 87 (wr (A 87) 3 ((rd (A 87) 3) + 1))) 89 (wr (A 87) 3 ((rd (A 87) 3) + 1))) (shF F), 0, 0)) hc105 10 rfl ⟨⟨by omega, by omega⟩, ⟨by omega, by omega⟩, ⟨by omega, by omega⟩, ⟨by omega, by omega⟩, trivial⟩ ?_
          refine R_reti hc105 rfl rfl ?_
          refine R_s (f' := (38, [some (vR 88), some (vI 0), some (vI i), some (vI p), some (vI lw), none, none], [vI (-3)], LAY (u (u (shA A) 87 (wr (A 87) 3 ((rd (A 87) 3) + 1))) 89 (wr (A 87) 3 ((rd (A 87) 3) + 1))) (shF F), 0, 0)) hc153 0 rfl trivial ?_
          refine R_s (P := True) (f' := (41, [some (vR 88), some (vI 0), some (vI i), some (vI p), some (vI lw), some (vI (-3)), none], [vJ 0], LAY (u (u (shA A) 87 (wr (A 87) 3 ((rd (A 87) 3) + 1))) 89 (wr (A 87) 3 ((rd (A 87) 3) + 1))) (shF F), 0, 0)) hc153 2 rfl trivial ?_
          refine R_retl hc153 rfl rfl ?_
          first
            | (exfalso; omega; done)
            | exact ⟨rfl, (u A 87 (wr (A 87) 3 ((rd (A 87) 3) + 1))), F, rfl, rfl, REL_ref hR0 (by decide) (by decide)⟩
        · refine R_s (P := True) (f' := (17, [some (vR 2), some (vI p)], [vI 1], LAY (shA A) (shF F), 0, 0)) hc5 2 rfl trivial ?_
          refine R_retz hc5 rfl rfl (Or.inr rfl) ?_
          refine R_s (f' := (29, [some (vR 1), some (vI 0), some (vI i), some (vI p), some (vI lw), some (vR 20), none], [vI 1], LAY (shA A) (shF F), 0, 0)) hc79 0 rfl trivial ?_
          refine R_if (t := 41) hc79 rfl rfl (fun (_ : ¬ 1 = 0) => ?_) (fun (z : ¬ (¬ 1 = 0)) => absurd (by decide) z)
          refine R_s (P := (0 ≤ i ∧ i < ((A 21).length : Int)) ∧ True) (f' := (49, [some (vR 1), some (vI 0), some (vI i), some (vI p), some (vI lw), some (vR 20), none], [vI 1, vI (rd (A 21) i)], LAY (shA A) (shF F), 0, 0)) hc79 5 rfl ⟨⟨by omega, by omega⟩, trivial⟩ ?_
          refine R_ic (t := 61) hc79 rfl rfl (fun (c10 : rd (A 21) i = 1) => ?_) (fun (c10 : ¬ (rd (A 21) i = 1)) => ?_)
          · refine R_s (P := True) (f' := (70, [some (vR 1), some (vI 0), some (vI i), some (vI p), some (vI lw), some (vR 20), none], [vI (-1), vI (F 2), vR 2], LAY (shA A) (shF F), 0, 0)) hc79 5 rfl trivial ?_
            refine R_cv hc79 rfl rfl (l_wakeT (A := shA A) (F := shF F) (al := N_al A F) (LENS_sh hL) (R_n hR0) (R_n30 hR0) (R_TR (A := A) hR0) (R_U (A := A) hR0) (R_T (A := A) hR0) (fun p _ => rfl)) (fun r G9 hp9 => ?_)
            obtain ⟨rfl, l8, l9, l10, rfl, k8, k9, k10, hw⟩ := hp9
            refine R_s (f' := (73, [some (vR 1), some (vI 0), some (vI i), some (vI p), some (vI lw), some (vR 20), none], [], LAY (u (u (u (shA A) 8 l8) 9 l9) 10 l10) (shF F), 0, 0)) hc79 0 rfl trivial ?_
            refine R_s (P := (0 ≤ i ∧ i < ((A 23).length : Int)) ∧ (0 ≤ i ∧ i < ((A 25).length : Int)) ∧ True) (f' := (95, [some (vR 1), some (vI 0), some (vI i), some (vI p), some (vI lw), some (vR 20), none], [vI (rd (A 25) i), vI (rd (A 23) i), vR 2, vR 74], LAY (u (u (u (shA A) 8 l8) 9 l9) 10 l10) (shF F), 0, 0)) hc79 12 rfl ⟨⟨by omega, by omega⟩, ⟨by omega, by omega⟩, trivial⟩ ?_
            refine R_cv hc79 rfl rfl (l_setShares (A := (u (u (u (shA A) 8 l8) 9 l9) 10 l10)) (F := (shF F)) (n := (F 3).toNat) (LENS_u (LENS_u (LENS_u (LENS_sh hL) (by show l8.length = (A 8).length; rw [k8, hL 8 (by decide)]; rfl)) (by show l9.length = (A 9).length; rw [k9, hL 9 (by decide)]; rfl)) (by show l10.length = (A 10).length; rw [k10, hL 10 (by decide)]; rfl)) (R_n hR0) (R_n30 hR0) (R_TR (A := A) hR0) (al := N_al A F) (fun p hp => (hw p hp).1) (N_al_01 (A := A) hR0) (fun p hp => (hw p hp).2) (ro := (rd (A 23) i).toNat) (by omega) (by omega) (by omega)) (fun r G9 hp9 => ?_)
            obtain ⟨rfl, l11, l78, rfl, k11, k78, v78⟩ := hp9
            have sb := SF_bd (how := rd (A 25) i) (root := (rd (A 23) i).toNat) (N_al_01 (A := A) hR0) (R_TR (A := A) hR0) (R_n30 hR0) (p := p.toNat) (by omega)
            obtain ⟨sf, hsf⟩ : ∃ x, x = SF (A 3) (F 3).toNat (N_al A F) (rd (A 25) i) (rd (A 23) i).toNat p.toNat := ⟨_, rfl⟩
            rw [← hsf] at sb
            have y78 : rd l78 p = sf := by
              have z := v78 p.toNat (by omega)
              rw [show ((p.toNat : Nat) : Int) = p by omega] at z
              rw [z, hsf]
              rfl
            refine R_s (f' := (98, [some (vR 1), some (vI 0), some (vI i), some (vI p), some (vI lw), some (vR 20), none], [], LAY (u (u (u (u (u (shA A) 8 l8) 9 l9) 10 l10) 11 l11) 78 l78) (shF F), 0, 0)) hc79 0 rfl trivial ?_
            refine R_s (P := (0 ≤ p ∧ p < ((l78).length : Int)) ∧ True) (f' := (111, [some (vR 1), some (vI 0), some (vI i), some (vI p), some (vI lw), some (vR 20), some (vI (rd l78 p))], [vI lw], LAY (u (u (u (u (u (shA A) 8 l8) 9 l9) 10 l10) 11 l11) 78 l78) (shF F), 0, 0)) hc79 7 rfl ⟨⟨by omega, by omega⟩, trivial⟩ ?_
            refine R_if (t := 127) hc79 rfl rfl (fun (c11 : lw = 0) => ?_) (fun (c11 : ¬ (lw = 0)) => ?_)
            · refine R_s (P := True) (f' := (129, [some (vR 1), some (vI 0), some (vI i), some (vI p), some (vI lw), some (vR 20), some (vI (rd l78 p))], [vI (rd l78 p)], LAY (u (u (u (u (u (shA A) 8 l8) 9 l9) 10 l10) 11 l11) 78 l78) (shF F), 0, 0)) hc79 1 rfl trivial ?_
              refine R_if (t := 136) hc79 rfl rfl (fun (c12 : ¬ rd l78 p = 0) => ?_) (fun (c12 : ¬ (¬ rd l78 p = 0)) => ?_)
              · refine R_s (P := True) (f' := (137, [some (vR 1), some (vI 0), some (vI i), some (vI p), some (vI lw), some (vR 20), some (vI (rd l78 p))], [vJ 1], LAY (u (u (u (u (u (shA A) 8 l8) 9 l9) 10 l10) 11 l11) 78 l78) (shF F), 0, 0)) hc79 1 rfl trivial ?_
                refine R_retl hc79 rfl rfl ?_
                refine R_s (P := True) (f' := (2, [some (vR 88), some (vI 0), some (vI i), some (vI p), some (vI lw), none, none], [vI 0, vR 88], LAY (u (u (u (u (u (shA A) 8 l8) 9 l9) 10 l10) 11 l11) 78 l78) (shF F), 0, 0)) hc153 2 rfl trivial ?_
                refine R_cv hc153 rfl rfl ?_ (fun r G h => h)
                refine R_s (P := inI ((F 0) - 1) ∧ True) (f' := (8, [some (vR 88), some (vI 0)], [vI ((F 0) - 1), vI 0, vI 0], LAY (u (u (u (u (u (shA A) 8 l8) 9 l9) 10 l10) 11 l11) 78 l78) (shF F), 0, 0)) hc108 6 rfl ⟨⟨by omega, by omega⟩, trivial⟩ ?_
                refine R_cs hc108 rfl rfl ?_ (fun r G h => h)
                refine R_s (P := True) (f' := (2, [some (vI 0), some (vI 0), some (vI ((F 0) - 1))], [vI 0, vI 0], LAY (u (u (u (u (u (shA A) 8 l8) 9 l9) 10 l10) 11 l11) 78 l78) (shF F), 0, 0)) hc104 2 rfl trivial ?_
                refine R_ic (t := 14) hc104 rfl rfl (fun (z : 0 < 0) => absurd z (by decide)) (fun (_ : ¬ (0 < 0)) => ?_)
                refine R_s (P := True) (f' := (7, [some (vI 0), some (vI 0), some (vI ((F 0) - 1))], [vI ((F 0) - 1), vI 0], LAY (u (u (u (u (u (shA A) 8 l8) 9 l9) 10 l10) 11 l11) 78 l78) (shF F), 0, 0)) hc104 2 rfl trivial ?_
                refine R_ic (t := 14) hc104 rfl rfl (fun (z : (F 0) - 1 < 0) => absurd z (by omega)) (fun (_ : ¬ ((F 0) - 1 < 0)) => ?_)
                refine R_s (P := True) (f' := (15, [some (vI 0), some (vI 0), some (vI ((F 0) - 1))], [vI 1], LAY (u (u (u (u (u (shA A) 8 l8) 9 l9) 10 l10) 11 l11) 78 l78) (shF F), 0, 0)) hc104 2 rfl trivial ?_
                refine R_retz hc104 rfl rfl (Or.inr rfl) ?_
                refine R_s (f' := (11, [some (vR 88), some (vI 0)], [vI 1], LAY (u (u (u (u (u (shA A) 8 l8) 9 l9) 10 l10) 11 l11) 78 l78) (shF F), 0, 0)) hc108 0 rfl trivial ?_
                refine R_retz hc108 rfl rfl (Or.inr rfl) ?_
                refine R_s (f' := (5, [some (vR 88), some (vI 0), some (vI i), some (vI p), some (vI lw), none, none], [vI 1], LAY (u (u (u (u (u (shA A) 8 l8) 9 l9) 10 l10) 11 l11) 78 l78) (shF F), 0, 0)) hc153 0 rfl trivial ?_
                refine R_if (t := 32) hc153 rfl rfl (fun (z : 1 = 0) => absurd z (by decide)) (fun (_ : ¬ (1 = 0)) => ?_)
                refine R_s (P := (0 ≤ 0 ∧ 0 < ((A 99).length : Int)) ∧ inI ((rd (A 99) 0) - 1) ∧ True) (f' := (18, [some (vR 88), some (vI 0), some (vI i), some (vI p), some (vI lw), none, none], [vI ((rd (A 99) 0) - 1), vI 0, vI i], LAY (u (u (u (u (u (shA A) 8 l8) 9 l9) 10 l10) 11 l11) 78 l78) (shF F), 0, 0)) hc153 8 rfl ⟨⟨by omega, by omega⟩, ⟨by omega, by omega⟩, trivial⟩ ?_
                refine R_cs hc153 rfl rfl ?_ (fun r G h => h)
                refine R_s (P := True) (f' := (2, [some (vI i), some (vI 0), some (vI ((rd (A 99) 0) - 1))], [vI 0, vI i], LAY (u (u (u (u (u (shA A) 8 l8) 9 l9) 10 l10) 11 l11) 78 l78) (shF F), 0, 0)) hc104 2 rfl trivial ?_
                refine R_ic (t := 14) hc104 rfl rfl (fun (z : i < 0) => absurd z (by omega)) (fun (_ : ¬ (i < 0)) => ?_)
                refine R_s (P := True) (f' := (7, [some (vI i), some (vI 0), some (vI ((rd (A 99) 0) - 1))], [vI ((rd (A 99) 0) - 1), vI i], LAY (u (u (u (u (u (shA A) 8 l8) 9 l9) 10 l10) 11 l11) 78 l78) (shF F), 0, 0)) hc104 2 rfl trivial ?_
                refine R_ic (t := 14) hc104 rfl rfl (fun (z : (rd (A 99) 0) - 1 < i) => absurd z (by omega)) (fun (_ : ¬ ((rd (A 99) 0) - 1 < i)) => ?_)
                refine R_s (P := True) (f' := (15, [some (vI i), some (vI 0), some (vI ((rd (A 99) 0) - 1))], [vI 1], LAY (u (u (u (u (u (shA A) 8 l8) 9 l9) 10 l10) 11 l11) 78 l78) (shF F), 0, 0)) hc104 2 rfl trivial ?_
                refine R_retz hc104 rfl rfl (Or.inr rfl) ?_
                refine R_s (f' := (21, [some (vR 88), some (vI 0), some (vI i), some (vI p), some (vI lw), none, none], [vI 1], LAY (u (u (u (u (u (shA A) 8 l8) 9 l9) 10 l10) 11 l11) 78 l78) (shF F), 0, 0)) hc153 0 rfl trivial ?_
                refine R_if (t := 32) hc153 rfl rfl (fun (z : 1 = 0) => absurd z (by decide)) (fun (_ : ¬ (1 = 0)) => ?_)
                refine R_s (P := True) (f' := (26, [some (vR 88), some (vI 0), some (vI i), some (vI p), some (vI lw), none, none], [vI p, vR 88], LAY (u (u (u (u (u (shA A) 8 l8) 9 l9) 10 l10) 11 l11) 78 l78) (shF F), 0, 0)) hc153 2 rfl trivial ?_
                refine R_cv hc153 rfl rfl ?_ (fun r G h => h)
                refine R_s (P := inI ((F 3) - 1) ∧ True) (f' := (8, [some (vR 88), some (vI p)], [vI ((F 3) - 1), vI 0, vI p], LAY (u (u (u (u (u (shA A) 8 l8) 9 l9) 10 l10) 11 l11) 78 l78) (shF F), 0, 0)) hc106 6 rfl ⟨⟨by omega, by omega⟩, trivial⟩ ?_
                refine R_cs hc106 rfl rfl ?_ (fun r G h => h)
                refine R_s (P := True) (f' := (2, [some (vI p), some (vI 0), some (vI ((F 3) - 1))], [vI 0, vI p], LAY (u (u (u (u (u (shA A) 8 l8) 9 l9) 10 l10) 11 l11) 78 l78) (shF F), 0, 0)) hc104 2 rfl trivial ?_
                refine R_ic (t := 14) hc104 rfl rfl (fun (z : p < 0) => absurd z (by omega)) (fun (_ : ¬ (p < 0)) => ?_)
                refine R_s (P := True) (f' := (7, [some (vI p), some (vI 0), some (vI ((F 3) - 1))], [vI ((F 3) - 1), vI p], LAY (u (u (u (u (u (shA A) 8 l8) 9 l9) 10 l10) 11 l11) 78 l78) (shF F), 0, 0)) hc104 2 rfl trivial ?_
                refine R_ic (t := 14) hc104 rfl rfl (fun (z : (F 3) - 1 < p) => absurd z (by omega)) (fun (_ : ¬ ((F 3) - 1 < p)) => ?_)
                refine R_s (P := True) (f' := (15, [some (vI p), some (vI 0), some (vI ((F 3) - 1))], [vI 1], LAY (u (u (u (u (u (shA A) 8 l8) 9 l9) 10 l10) 11 l11) 78 l78) (shF F), 0, 0)) hc104 2 rfl trivial ?_
                refine R_retz hc104 rfl rfl (Or.inr rfl) ?_
                refine R_s (f' := (11, [some (vR 88), some (vI p)], [vI 1], LAY (u (u (u (u (u (shA A) 8 l8) 9 l9) 10 l10) 11 l11) 78 l78) (shF F), 0, 0)) hc106 0 rfl trivial ?_
                refine R_retz hc106 rfl rfl (Or.inr rfl) ?_
                refine R_s (f' := (29, [some (vR 88), some (vI 0), some (vI i), some (vI p), some (vI lw), none, none], [vI 1], LAY (u (u (u (u (u (shA A) 8 l8) 9 l9) 10 l10) 11 l11) 78 l78) (shF F), 0, 0)) hc153 0 rfl trivial ?_
                refine R_if (t := 42) hc153 rfl rfl (fun (_ : ¬ 1 = 0) => ?_) (fun (z : ¬ (¬ 1 = 0)) => absurd (by decide) z)
                refine R_s (P := inI 0 ∧ inI (8 * i) ∧ inI (0 + (8 * i)) ∧ (0 ≤ 0 + (8 * i) ∧ 0 + (8 * i) < ((A 100).length : Int)) ∧ True) (f' := (61, [some (vR 88), some (vI 0), some (vI i), some (vI p), some (vI lw), some (vI (0 + (8 * i))), none], [vI 1, vI (rd (A 100) (0 + (8 * i)))], LAY (u (u (u (u (u (shA A) 8 l8) 9 l9) 10 l10) 11 l11) 78 l78) (shF F), 0, 0)) hc153 13 rfl ⟨⟨by omega, by omega⟩, ⟨by omega, by omega⟩, ⟨by omega, by omega⟩, ⟨by omega, by omega⟩, trivial⟩ ?_
                refine R_ic (t := 74) hc153 rfl rfl (fun (_ : rd (A 100) (0 + (8 * i)) = 1) => ?_) (fun (z : ¬ (rd (A 100) (0 + (8 * i)) = 1)) => absurd (show rd (A 100) (0 + (8 * i)) = 1 by omega) z)
                refine R_s (P := inI ((0 + (8 * i)) + 2) ∧ (0 ≤ (0 + (8 * i)) + 2 ∧ (0 + (8 * i)) + 2 < ((A 100).length : Int)) ∧ inI ((0 + (8 * i)) + 4) ∧ (0 ≤ (0 + (8 * i)) + 4 ∧ (0 + (8 * i)) + 4 < ((A 100).length : Int)) ∧ True) (f' := (93, [some (vR 88), some (vI 0), some (vI i), some (vI p), some (vI lw), some (vI (0 + (8 * i))), none], [vI (rd (A 100) ((0 + (8 * i)) + 4)), vI (rd (A 100) ((0 + (8 * i)) + 2)), vR 88], LAY (u (u (u (u (u (shA A) 8 l8) 9 l9) 10 l10) 11 l11) 78 l78) (shF F), 0, 0)) hc153 13 rfl ⟨⟨by omega, by omega⟩, ⟨by omega, by omega⟩, ⟨by omega, by omega⟩, ⟨by omega, by omega⟩, trivial⟩ ?_
                refine R_cv hc153 rfl rfl (l_findShares (A := (u (u (u (u (u (shA A) 8 l8) 9 l9) 10 l10) 11 l11) 78 l78)) (F := (shF F)) (n := (F 3).toNat) (R_n hR0) (R_n30 hR0) (hL 4 (by decide)) (hL 5 (by decide)) (hL 6 (by decide)) (hL 94 (by decide)) (R_U (A := A) hR0) (fun p hp => (R_mT (A := A) hR0 p hp).1) (al := N_al A F) (N_al_m (A := A) hR0) (R_TR (A := A) hR0) (hL 3 (by decide)) (ro := (rd (A 23) i).toNat) (by omega) (by omega) (hL 104 (by decide)) (hL 105 (by decide)) (hL 110 (by decide)) (hL 111 (by decide)) (by omega)) (fun r G9 hp9 => ?_)
                obtain ⟨rfl, l104, l105, l110, l111, rfl, k104, k105, k110, k111, w0⟩ := hp9
                have e4 : rd (A 100) (0 + 8 * i + 4) = rd (A 25) i := by omega
                have w1 := w0 p.toNat (by omega)
                rw [show ((p.toNat : Nat) : Int) = p by omega] at w1
                have w2 : rd l110 p = (if sf = 0 then 0 else 1) ∧ rd l111 p = (if sf = 0 then 1 else sf) := by
                  rw [hsf, ← e4]
                  exact w1
                have w3 : (sf = 0 → rd l110 p = 0 ∧ rd l111 p = 1) ∧ (sf ≠ 0 → rd l110 p = 1 ∧ rd l111 p = sf) := ⟨fun h => by rw [w2.1, w2.2, if_pos h, if_pos h]; exact ⟨rfl, rfl⟩, fun h => by rw [w2.1, w2.2, if_neg h, if_neg h]; exact ⟨rfl, rfl⟩⟩
                refine R_s (f' := (96, [some (vR 88), some (vI 0), some (vI i), some (vI p), some (vI lw), some (vI (0 + (8 * i))), none], [], LAY (u (u (u (u (u (u (u (u (u (shA A) 8 l8) 9 l9) 10 l10) 11 l11) 78 l78) 104 l104) 105 l105) 110 l110) 111 l111) (shF F), 0, 0)) hc153 0 rfl trivial ?_
                refine R_s (P := True) (f' := (98, [some (vR 88), some (vI 0), some (vI i), some (vI p), some (vI lw), some (vI (0 + (8 * i))), none], [vI lw], LAY (u (u (u (u (u (u (u (u (u (shA A) 8 l8) 9 l9) 10 l10) 11 l11) 78 l78) 104 l104) 105 l105) 110 l110) 111 l111) (shF F), 0, 0)) hc153 1 rfl trivial ?_
                refine R_if (t := 110) hc153 rfl rfl (fun (_ : lw = 0) => ?_) (fun (z : ¬ (lw = 0)) => absurd (show lw = 0 by omega) z)
                refine R_s (P := (0 ≤ p ∧ p < ((l110).length : Int)) ∧ True) (f' := (116, [some (vR 88), some (vI 0), some (vI i), some (vI p), some (vI lw), some (vI (0 + (8 * i))), none], [vJ (rd l110 p)], LAY (u (u (u (u (u (u (u (u (u (shA A) 8 l8) 9 l9) 10 l10) 11 l11) 78 l78) 104 l104) 105 l105) 110 l110) 111 l111) (shF F), 0, 0)) hc153 4 rfl ⟨⟨by omega, by omega⟩, trivial⟩ ?_
                refine R_retl hc153 rfl rfl ?_
                first
                  | (exfalso; omega; done)
                  | exact ⟨(by rw [show (rd l110 p : Int) = 1 by omega]), (u (u (u (u (u (u (u (u (u A 8 l8) 9 l9) 10 l10) 11 l11) 78 l78) 104 l104) 105 l105) 110 l110) 111 l111), F, rfl, rfl, ⟨(LENS_u (LENS_u (LENS_u (LENS_u (LENS_u (LENS_u (LENS_u (LENS_u (LENS_u hL (by show (l8).length = (A 8).length; rw [k8, hL 8 (by decide)]; rfl)) (by show (l9).length = (A 9).length; rw [k9, hL 9 (by decide)]; rfl)) (by show (l10).length = (A 10).length; rw [k10, hL 10 (by decide)]; rfl)) (by show (l11).length = (A 11).length; rw [k11, hL 11 (by decide)]; rfl)) (by show (l78).length = (A 78).length; rw [k78, hL 78 (by decide)]; rfl)) (by show (l104).length = (A 104).length; rw [k104, hL 104 (by decide)]; rfl)) (by show (l105).length = (A 105).length; rw [k105, hL 105 (by decide)]; rfl)) (by show (l110).length = (A 110).length; rw [k110, hL 110 (by decide)]; rfl)) (by show (l111).length = (A 111).length; rw [k111, hL 111 (by decide)]; rfl)), hR0.2.1, hR0.2.2.1, hR0.2.2.2.1, hR0.2.2.2.2.1, hR0.2.2.2.2.2.1, hR0.2.2.2.2.2.2.1, hR0.2.2.2.2.2.2.2.1, hR0.2.2.2.2.2.2.2.2.1, (REFU_c hR0.2.2.2.2.2.2.2.2.2)⟩⟩
              · refine R_s (P := True) (f' := (137, [some (vR 1), some (vI 0), some (vI i), some (vI p), some (vI lw), some (vR 20), some (vI (rd l78 p))], [vJ 0], LAY (u (u (u (u (u (shA A) 8 l8) 9 l9) 10 l10) 11 l11) 78 l78) (shF F), 0, 0)) hc79 2 rfl trivial ?_
                refine R_retl hc79 rfl rfl ?_
                refine R_s (P := True) (f' := (2, [some (vR 88), some (vI 0), some (vI i), some (vI p), some (vI lw), none, none], [vI 0, vR 88], LAY (u (u (u (u (u (shA A) 8 l8) 9 l9) 10 l10) 11 l11) 78 l78) (shF F), 0, 0)) hc153 2 rfl trivial ?_
                refine R_cv hc153 rfl rfl ?_ (fun r G h => h)
                refine R_s (P := inI ((F 0) - 1) ∧ True) (f' := (8, [some (vR 88), some (vI 0)], [vI ((F 0) - 1), vI 0, vI 0], LAY (u (u (u (u (u (shA A) 8 l8) 9 l9) 10 l10) 11 l11) 78 l78) (shF F), 0, 0)) hc108 6 rfl ⟨⟨by omega, by omega⟩, trivial⟩ ?_
                refine R_cs hc108 rfl rfl ?_ (fun r G h => h)
                refine R_s (P := True) (f' := (2, [some (vI 0), some (vI 0), some (vI ((F 0) - 1))], [vI 0, vI 0], LAY (u (u (u (u (u (shA A) 8 l8) 9 l9) 10 l10) 11 l11) 78 l78) (shF F), 0, 0)) hc104 2 rfl trivial ?_
                refine R_ic (t := 14) hc104 rfl rfl (fun (z : 0 < 0) => absurd z (by decide)) (fun (_ : ¬ (0 < 0)) => ?_)
                refine R_s (P := True) (f' := (7, [some (vI 0), some (vI 0), some (vI ((F 0) - 1))], [vI ((F 0) - 1), vI 0], LAY (u (u (u (u (u (shA A) 8 l8) 9 l9) 10 l10) 11 l11) 78 l78) (shF F), 0, 0)) hc104 2 rfl trivial ?_
                refine R_ic (t := 14) hc104 rfl rfl (fun (z : (F 0) - 1 < 0) => absurd z (by omega)) (fun (_ : ¬ ((F 0) - 1 < 0)) => ?_)
                refine R_s (P := True) (f' := (15, [some (vI 0), some (vI 0), some (vI ((F 0) - 1))], [vI 1], LAY (u (u (u (u (u (shA A) 8 l8) 9 l9) 10 l10) 11 l11) 78 l78) (shF F), 0, 0)) hc104 2 rfl trivial ?_
                refine R_retz hc104 rfl rfl (Or.inr rfl) ?_
                refine R_s (f' := (11, [some (vR 88), some (vI 0)], [vI 1], LAY (u (u (u (u (u (shA A) 8 l8) 9 l9) 10 l10) 11 l11) 78 l78) (shF F), 0, 0)) hc108 0 rfl trivial ?_
                refine R_retz hc108 rfl rfl (Or.inr rfl) ?_
                refine R_s (f' := (5, [some (vR 88), some (vI 0), some (vI i), some (vI p), some (vI lw), none, none], [vI 1], LAY (u (u (u (u (u (shA A) 8 l8) 9 l9) 10 l10) 11 l11) 78 l78) (shF F), 0, 0)) hc153 0 rfl trivial ?_
                refine R_if (t := 32) hc153 rfl rfl (fun (z : 1 = 0) => absurd z (by decide)) (fun (_ : ¬ (1 = 0)) => ?_)
                refine R_s (P := (0 ≤ 0 ∧ 0 < ((A 99).length : Int)) ∧ inI ((rd (A 99) 0) - 1) ∧ True) (f' := (18, [some (vR 88), some (vI 0), some (vI i), some (vI p), some (vI lw), none, none], [vI ((rd (A 99) 0) - 1), vI 0, vI i], LAY (u (u (u (u (u (shA A) 8 l8) 9 l9) 10 l10) 11 l11) 78 l78) (shF F), 0, 0)) hc153 8 rfl ⟨⟨by omega, by omega⟩, ⟨by omega, by omega⟩, trivial⟩ ?_
                refine R_cs hc153 rfl rfl ?_ (fun r G h => h)
                refine R_s (P := True) (f' := (2, [some (vI i), some (vI 0), some (vI ((rd (A 99) 0) - 1))], [vI 0, vI i], LAY (u (u (u (u (u (shA A) 8 l8) 9 l9) 10 l10) 11 l11) 78 l78) (shF F), 0, 0)) hc104 2 rfl trivial ?_
                refine R_ic (t := 14) hc104 rfl rfl (fun (z : i < 0) => absurd z (by omega)) (fun (_ : ¬ (i < 0)) => ?_)
                refine R_s (P := True) (f' := (7, [some (vI i), some (vI 0), some (vI ((rd (A 99) 0) - 1))], [vI ((rd (A 99) 0) - 1), vI i], LAY (u (u (u (u (u (shA A) 8 l8) 9 l9) 10 l10) 11 l11) 78 l78) (shF F), 0, 0)) hc104 2 rfl trivial ?_
                refine R_ic (t := 14) hc104 rfl rfl (fun (z : (rd (A 99) 0) - 1 < i) => absurd z (by omega)) (fun (_ : ¬ ((rd (A 99) 0) - 1 < i)) => ?_)
                refine R_s (P := True) (f' := (15, [some (vI i), some (vI 0), some (vI ((rd (A 99) 0) - 1))], [vI 1], LAY (u (u (u (u (u (shA A) 8 l8) 9 l9) 10 l10) 11 l11) 78 l78) (shF F), 0, 0)) hc104 2 rfl trivial ?_
                refine R_retz hc104 rfl rfl (Or.inr rfl) ?_
                refine R_s (f' := (21, [some (vR 88), some (vI 0), some (vI i), some (vI p), some (vI lw), none, none], [vI 1], LAY (u (u (u (u (u (shA A) 8 l8) 9 l9) 10 l10) 11 l11) 78 l78) (shF F), 0, 0)) hc153 0 rfl trivial ?_
                refine R_if (t := 32) hc153 rfl rfl (fun (z : 1 = 0) => absurd z (by decide)) (fun (_ : ¬ (1 = 0)) => ?_)
                refine R_s (P := True) (f' := (26, [some (vR 88), some (vI 0), some (vI i), some (vI p), some (vI lw), none, none], [vI p, vR 88], LAY (u (u (u (u (u (shA A) 8 l8) 9 l9) 10 l10) 11 l11) 78 l78) (shF F), 0, 0)) hc153 2 rfl trivial ?_
                refine R_cv hc153 rfl rfl ?_ (fun r G h => h)
                refine R_s (P := inI ((F 3) - 1) ∧ True) (f' := (8, [some (vR 88), some (vI p)], [vI ((F 3) - 1), vI 0, vI p], LAY (u (u (u (u (u (shA A) 8 l8) 9 l9) 10 l10) 11 l11) 78 l78) (shF F), 0, 0)) hc106 6 rfl ⟨⟨by omega, by omega⟩, trivial⟩ ?_
                refine R_cs hc106 rfl rfl ?_ (fun r G h => h)
                refine R_s (P := True) (f' := (2, [some (vI p), some (vI 0), some (vI ((F 3) - 1))], [vI 0, vI p], LAY (u (u (u (u (u (shA A) 8 l8) 9 l9) 10 l10) 11 l11) 78 l78) (shF F), 0, 0)) hc104 2 rfl trivial ?_
                refine R_ic (t := 14) hc104 rfl rfl (fun (z : p < 0) => absurd z (by omega)) (fun (_ : ¬ (p < 0)) => ?_)
                refine R_s (P := True) (f' := (7, [some (vI p), some (vI 0), some (vI ((F 3) - 1))], [vI ((F 3) - 1), vI p], LAY (u (u (u (u (u (shA A) 8 l8) 9 l9) 10 l10) 11 l11) 78 l78) (shF F), 0, 0)) hc104 2 rfl trivial ?_
                refine R_ic (t := 14) hc104 rfl rfl (fun (z : (F 3) - 1 < p) => absurd z (by omega)) (fun (_ : ¬ ((F 3) - 1 < p)) => ?_)
                refine R_s (P := True) (f' := (15, [some (vI p), some (vI 0), some (vI ((F 3) - 1))], [vI 1], LAY (u (u (u (u (u (shA A) 8 l8) 9 l9) 10 l10) 11 l11) 78 l78) (shF F), 0, 0)) hc104 2 rfl trivial ?_
                refine R_retz hc104 rfl rfl (Or.inr rfl) ?_
                refine R_s (f' := (11, [some (vR 88), some (vI p)], [vI 1], LAY (u (u (u (u (u (shA A) 8 l8) 9 l9) 10 l10) 11 l11) 78 l78) (shF F), 0, 0)) hc106 0 rfl trivial ?_
                refine R_retz hc106 rfl rfl (Or.inr rfl) ?_
                refine R_s (f' := (29, [some (vR 88), some (vI 0), some (vI i), some (vI p), some (vI lw), none, none], [vI 1], LAY (u (u (u (u (u (shA A) 8 l8) 9 l9) 10 l10) 11 l11) 78 l78) (shF F), 0, 0)) hc153 0 rfl trivial ?_
                refine R_if (t := 42) hc153 rfl rfl (fun (_ : ¬ 1 = 0) => ?_) (fun (z : ¬ (¬ 1 = 0)) => absurd (by decide) z)
                refine R_s (P := inI 0 ∧ inI (8 * i) ∧ inI (0 + (8 * i)) ∧ (0 ≤ 0 + (8 * i) ∧ 0 + (8 * i) < ((A 100).length : Int)) ∧ True) (f' := (61, [some (vR 88), some (vI 0), some (vI i), some (vI p), some (vI lw), some (vI (0 + (8 * i))), none], [vI 1, vI (rd (A 100) (0 + (8 * i)))], LAY (u (u (u (u (u (shA A) 8 l8) 9 l9) 10 l10) 11 l11) 78 l78) (shF F), 0, 0)) hc153 13 rfl ⟨⟨by omega, by omega⟩, ⟨by omega, by omega⟩, ⟨by omega, by omega⟩, ⟨by omega, by omega⟩, trivial⟩ ?_
                refine R_ic (t := 74) hc153 rfl rfl (fun (_ : rd (A 100) (0 + (8 * i)) = 1) => ?_) (fun (z : ¬ (rd (A 100) (0 + (8 * i)) = 1)) => absurd (show rd (A 100) (0 + (8 * i)) = 1 by omega) z)
                refine R_s (P := inI ((0 + (8 * i)) + 2) ∧ (0 ≤ (0 + (8 * i)) + 2 ∧ (0 + (8 * i)) + 2 < ((A 100).length : Int)) ∧ inI ((0 + (8 * i)) + 4) ∧ (0 ≤ (0 + (8 * i)) + 4 ∧ (0 + (8 * i)) + 4 < ((A 100).length : Int)) ∧ True) (f' := (93, [some (vR 88), some (vI 0), some (vI i), some (vI p), some (vI lw), some (vI (0 + (8 * i))), none], [vI (rd (A 100) ((0 + (8 * i)) + 4)), vI (rd (A 100) ((0 + (8 * i)) + 2)), vR 88], LAY (u (u (u (u (u (shA A) 8 l8) 9 l9) 10 l10) 11 l11) 78 l78) (shF F), 0, 0)) hc153 13 rfl ⟨⟨by omega, by omega⟩, ⟨by omega, by omega⟩, ⟨by omega, by omega⟩, ⟨by omega, by omega⟩, trivial⟩ ?_
                refine R_cv hc153 rfl rfl (l_findShares (A := (u (u (u (u (u (shA A) 8 l8) 9 l9) 10 l10) 11 l11) 78 l78)) (F := (shF F)) (n := (F 3).toNat) (R_n hR0) (R_n30 hR0) (hL 4 (by decide)) (hL 5 (by decide)) (hL 6 (by decide)) (hL 94 (by decide)) (R_U (A := A) hR0) (fun p hp => (R_mT (A := A) hR0 p hp).1) (al := N_al A F) (N_al_m (A := A) hR0) (R_TR (A := A) hR0) (hL 3 (by decide)) (ro := (rd (A 23) i).toNat) (by omega) (by omega) (hL 104 (by decide)) (hL 105 (by decide)) (hL 110 (by decide)) (hL 111 (by decide)) (by omega)) (fun r G9 hp9 => ?_)
                obtain ⟨rfl, l104, l105, l110, l111, rfl, k104, k105, k110, k111, w0⟩ := hp9
                have e4 : rd (A 100) (0 + 8 * i + 4) = rd (A 25) i := by omega
                have w1 := w0 p.toNat (by omega)
                rw [show ((p.toNat : Nat) : Int) = p by omega] at w1
                have w2 : rd l110 p = (if sf = 0 then 0 else 1) ∧ rd l111 p = (if sf = 0 then 1 else sf) := by
                  rw [hsf, ← e4]
                  exact w1
                have w3 : (sf = 0 → rd l110 p = 0 ∧ rd l111 p = 1) ∧ (sf ≠ 0 → rd l110 p = 1 ∧ rd l111 p = sf) := ⟨fun h => by rw [w2.1, w2.2, if_pos h, if_pos h]; exact ⟨rfl, rfl⟩, fun h => by rw [w2.1, w2.2, if_neg h, if_neg h]; exact ⟨rfl, rfl⟩⟩
                refine R_s (f' := (96, [some (vR 88), some (vI 0), some (vI i), some (vI p), some (vI lw), some (vI (0 + (8 * i))), none], [], LAY (u (u (u (u (u (u (u (u (u (shA A) 8 l8) 9 l9) 10 l10) 11 l11) 78 l78) 104 l104) 105 l105) 110 l110) 111 l111) (shF F), 0, 0)) hc153 0 rfl trivial ?_
                refine R_s (P := True) (f' := (98, [some (vR 88), some (vI 0), some (vI i), some (vI p), some (vI lw), some (vI (0 + (8 * i))), none], [vI lw], LAY (u (u (u (u (u (u (u (u (u (shA A) 8 l8) 9 l9) 10 l10) 11 l11) 78 l78) 104 l104) 105 l105) 110 l110) 111 l111) (shF F), 0, 0)) hc153 1 rfl trivial ?_
                refine R_if (t := 110) hc153 rfl rfl (fun (_ : lw = 0) => ?_) (fun (z : ¬ (lw = 0)) => absurd (show lw = 0 by omega) z)
                refine R_s (P := (0 ≤ p ∧ p < ((l110).length : Int)) ∧ True) (f' := (116, [some (vR 88), some (vI 0), some (vI i), some (vI p), some (vI lw), some (vI (0 + (8 * i))), none], [vJ (rd l110 p)], LAY (u (u (u (u (u (u (u (u (u (shA A) 8 l8) 9 l9) 10 l10) 11 l11) 78 l78) 104 l104) 105 l105) 110 l110) 111 l111) (shF F), 0, 0)) hc153 4 rfl ⟨⟨by omega, by omega⟩, trivial⟩ ?_
                refine R_retl hc153 rfl rfl ?_
                first
                  | (exfalso; omega; done)
                  | exact ⟨(by rw [show (rd l110 p : Int) = 0 by omega]), (u (u (u (u (u (u (u (u (u A 8 l8) 9 l9) 10 l10) 11 l11) 78 l78) 104 l104) 105 l105) 110 l110) 111 l111), F, rfl, rfl, ⟨(LENS_u (LENS_u (LENS_u (LENS_u (LENS_u (LENS_u (LENS_u (LENS_u (LENS_u hL (by show (l8).length = (A 8).length; rw [k8, hL 8 (by decide)]; rfl)) (by show (l9).length = (A 9).length; rw [k9, hL 9 (by decide)]; rfl)) (by show (l10).length = (A 10).length; rw [k10, hL 10 (by decide)]; rfl)) (by show (l11).length = (A 11).length; rw [k11, hL 11 (by decide)]; rfl)) (by show (l78).length = (A 78).length; rw [k78, hL 78 (by decide)]; rfl)) (by show (l104).length = (A 104).length; rw [k104, hL 104 (by decide)]; rfl)) (by show (l105).length = (A 105).length; rw [k105, hL 105 (by decide)]; rfl)) (by show (l110).length = (A 110).length; rw [k110, hL 110 (by decide)]; rfl)) (by show (l111).length = (A 111).length; rw [k111, hL 111 (by decide)]; rfl)), hR0.2.1, hR0.2.2.1, hR0.2.2.2.1, hR0.2.2.2.2.1, hR0.2.2.2.2.2.1, hR0.2.2.2.2.2.2.1, hR0.2.2.2.2.2.2.2.1, hR0.2.2.2.2.2.2.2.2.1, (REFU_c hR0.2.2.2.2.2.2.2.2.2)⟩⟩
            · refine R_s (P := True) (f' := (116, [some (vR 1), some (vI 0), some (vI i), some (vI p), some (vI lw), some (vR 20), some (vI (rd l78 p))], [vI (rd l78 p)], LAY (u (u (u (u (u (shA A) 8 l8) 9 l9) 10 l10) 11 l11) 78 l78) (shF F), 0, 0)) hc79 1 rfl trivial ?_
              refine R_if (t := 123) hc79 rfl rfl (fun (c13 : ¬ rd l78 p = 0) => ?_) (fun (c13 : ¬ (¬ rd l78 p = 0)) => ?_)
              · refine R_s (P := True) (f' := (126, [some (vR 1), some (vI 0), some (vI i), some (vI p), some (vI lw), some (vR 20), some (vI (rd l78 p))], [vJ (rd l78 p)], LAY (u (u (u (u (u (shA A) 8 l8) 9 l9) 10 l10) 11 l11) 78 l78) (shF F), 0, 0)) hc79 2 rfl trivial ?_
                refine R_retl hc79 rfl rfl ?_
                refine R_s (P := True) (f' := (2, [some (vR 88), some (vI 0), some (vI i), some (vI p), some (vI lw), none, none], [vI 0, vR 88], LAY (u (u (u (u (u (shA A) 8 l8) 9 l9) 10 l10) 11 l11) 78 l78) (shF F), 0, 0)) hc153 2 rfl trivial ?_
                refine R_cv hc153 rfl rfl ?_ (fun r G h => h)
                refine R_s (P := inI ((F 0) - 1) ∧ True) (f' := (8, [some (vR 88), some (vI 0)], [vI ((F 0) - 1), vI 0, vI 0], LAY (u (u (u (u (u (shA A) 8 l8) 9 l9) 10 l10) 11 l11) 78 l78) (shF F), 0, 0)) hc108 6 rfl ⟨⟨by omega, by omega⟩, trivial⟩ ?_
                refine R_cs hc108 rfl rfl ?_ (fun r G h => h)
                refine R_s (P := True) (f' := (2, [some (vI 0), some (vI 0), some (vI ((F 0) - 1))], [vI 0, vI 0], LAY (u (u (u (u (u (shA A) 8 l8) 9 l9) 10 l10) 11 l11) 78 l78) (shF F), 0, 0)) hc104 2 rfl trivial ?_
                refine R_ic (t := 14) hc104 rfl rfl (fun (z : 0 < 0) => absurd z (by decide)) (fun (_ : ¬ (0 < 0)) => ?_)
                refine R_s (P := True) (f' := (7, [some (vI 0), some (vI 0), some (vI ((F 0) - 1))], [vI ((F 0) - 1), vI 0], LAY (u (u (u (u (u (shA A) 8 l8) 9 l9) 10 l10) 11 l11) 78 l78) (shF F), 0, 0)) hc104 2 rfl trivial ?_
                refine R_ic (t := 14) hc104 rfl rfl (fun (z : (F 0) - 1 < 0) => absurd z (by omega)) (fun (_ : ¬ ((F 0) - 1 < 0)) => ?_)
                refine R_s (P := True) (f' := (15, [some (vI 0), some (vI 0), some (vI ((F 0) - 1))], [vI 1], LAY (u (u (u (u (u (shA A) 8 l8) 9 l9) 10 l10) 11 l11) 78 l78) (shF F), 0, 0)) hc104 2 rfl trivial ?_
                refine R_retz hc104 rfl rfl (Or.inr rfl) ?_
                refine R_s (f' := (11, [some (vR 88), some (vI 0)], [vI 1], LAY (u (u (u (u (u (shA A) 8 l8) 9 l9) 10 l10) 11 l11) 78 l78) (shF F), 0, 0)) hc108 0 rfl trivial ?_
                refine R_retz hc108 rfl rfl (Or.inr rfl) ?_
                refine R_s (f' := (5, [some (vR 88), some (vI 0), some (vI i), some (vI p), some (vI lw), none, none], [vI 1], LAY (u (u (u (u (u (shA A) 8 l8) 9 l9) 10 l10) 11 l11) 78 l78) (shF F), 0, 0)) hc153 0 rfl trivial ?_
                refine R_if (t := 32) hc153 rfl rfl (fun (z : 1 = 0) => absurd z (by decide)) (fun (_ : ¬ (1 = 0)) => ?_)
                refine R_s (P := (0 ≤ 0 ∧ 0 < ((A 99).length : Int)) ∧ inI ((rd (A 99) 0) - 1) ∧ True) (f' := (18, [some (vR 88), some (vI 0), some (vI i), some (vI p), some (vI lw), none, none], [vI ((rd (A 99) 0) - 1), vI 0, vI i], LAY (u (u (u (u (u (shA A) 8 l8) 9 l9) 10 l10) 11 l11) 78 l78) (shF F), 0, 0)) hc153 8 rfl ⟨⟨by omega, by omega⟩, ⟨by omega, by omega⟩, trivial⟩ ?_
                refine R_cs hc153 rfl rfl ?_ (fun r G h => h)
                refine R_s (P := True) (f' := (2, [some (vI i), some (vI 0), some (vI ((rd (A 99) 0) - 1))], [vI 0, vI i], LAY (u (u (u (u (u (shA A) 8 l8) 9 l9) 10 l10) 11 l11) 78 l78) (shF F), 0, 0)) hc104 2 rfl trivial ?_
                refine R_ic (t := 14) hc104 rfl rfl (fun (z : i < 0) => absurd z (by omega)) (fun (_ : ¬ (i < 0)) => ?_)
                refine R_s (P := True) (f' := (7, [some (vI i), some (vI 0), some (vI ((rd (A 99) 0) - 1))], [vI ((rd (A 99) 0) - 1), vI i], LAY (u (u (u (u (u (shA A) 8 l8) 9 l9) 10 l10) 11 l11) 78 l78) (shF F), 0, 0)) hc104 2 rfl trivial ?_
                refine R_ic (t := 14) hc104 rfl rfl (fun (z : (rd (A 99) 0) - 1 < i) => absurd z (by omega)) (fun (_ : ¬ ((rd (A 99) 0) - 1 < i)) => ?_)
                refine R_s (P := True) (f' := (15, [some (vI i), some (vI 0), some (vI ((rd (A 99) 0) - 1))], [vI 1], LAY (u (u (u (u (u (shA A) 8 l8) 9 l9) 10 l10) 11 l11) 78 l78) (shF F), 0, 0)) hc104 2 rfl trivial ?_
                refine R_retz hc104 rfl rfl (Or.inr rfl) ?_
                refine R_s (f' := (21, [some (vR 88), some (vI 0), some (vI i), some (vI p), some (vI lw), none, none], [vI 1], LAY (u (u (u (u (u (shA A) 8 l8) 9 l9) 10 l10) 11 l11) 78 l78) (shF F), 0, 0)) hc153 0 rfl trivial ?_
                refine R_if (t := 32) hc153 rfl rfl (fun (z : 1 = 0) => absurd z (by decide)) (fun (_ : ¬ (1 = 0)) => ?_)
                refine R_s (P := True) (f' := (26, [some (vR 88), some (vI 0), some (vI i), some (vI p), some (vI lw), none, none], [vI p, vR 88], LAY (u (u (u (u (u (shA A) 8 l8) 9 l9) 10 l10) 11 l11) 78 l78) (shF F), 0, 0)) hc153 2 rfl trivial ?_
                refine R_cv hc153 rfl rfl ?_ (fun r G h => h)
                refine R_s (P := inI ((F 3) - 1) ∧ True) (f' := (8, [some (vR 88), some (vI p)], [vI ((F 3) - 1), vI 0, vI p], LAY (u (u (u (u (u (shA A) 8 l8) 9 l9) 10 l10) 11 l11) 78 l78) (shF F), 0, 0)) hc106 6 rfl ⟨⟨by omega, by omega⟩, trivial⟩ ?_
                refine R_cs hc106 rfl rfl ?_ (fun r G h => h)
                refine R_s (P := True) (f' := (2, [some (vI p), some (vI 0), some (vI ((F 3) - 1))], [vI 0, vI p], LAY (u (u (u (u (u (shA A) 8 l8) 9 l9) 10 l10) 11 l11) 78 l78) (shF F), 0, 0)) hc104 2 rfl trivial ?_
                refine R_ic (t := 14) hc104 rfl rfl (fun (z : p < 0) => absurd z (by omega)) (fun (_ : ¬ (p < 0)) => ?_)
                refine R_s (P := True) (f' := (7, [some (vI p), some (vI 0), some (vI ((F 3) - 1))], [vI ((F 3) - 1), vI p], LAY (u (u (u (u (u (shA A) 8 l8) 9 l9) 10 l10) 11 l11) 78 l78) (shF F), 0, 0)) hc104 2 rfl trivial ?_
                refine R_ic (t := 14) hc104 rfl rfl (fun (z : (F 3) - 1 < p) => absurd z (by omega)) (fun (_ : ¬ ((F 3) - 1 < p)) => ?_)
                refine R_s (P := True) (f' := (15, [some (vI p), some (vI 0), some (vI ((F 3) - 1))], [vI 1], LAY (u (u (u (u (u (shA A) 8 l8) 9 l9) 10 l10) 11 l11) 78 l78) (shF F), 0, 0)) hc104 2 rfl trivial ?_
                refine R_retz hc104 rfl rfl (Or.inr rfl) ?_
                refine R_s (f' := (11, [some (vR 88), some (vI p)], [vI 1], LAY (u (u (u (u (u (shA A) 8 l8) 9 l9) 10 l10) 11 l11) 78 l78) (shF F), 0, 0)) hc106 0 rfl trivial ?_
                refine R_retz hc106 rfl rfl (Or.inr rfl) ?_
                refine R_s (f' := (29, [some (vR 88), some (vI 0), some (vI i), some (vI p), some (vI lw), none, none], [vI 1], LAY (u (u (u (u (u (shA A) 8 l8) 9 l9) 10 l10) 11 l11) 78 l78) (shF F), 0, 0)) hc153 0 rfl trivial ?_
                refine R_if (t := 42) hc153 rfl rfl (fun (_ : ¬ 1 = 0) => ?_) (fun (z : ¬ (¬ 1 = 0)) => absurd (by decide) z)
                refine R_s (P := inI 0 ∧ inI (8 * i) ∧ inI (0 + (8 * i)) ∧ (0 ≤ 0 + (8 * i) ∧ 0 + (8 * i) < ((A 100).length : Int)) ∧ True) (f' := (61, [some (vR 88), some (vI 0), some (vI i), some (vI p), some (vI lw), some (vI (0 + (8 * i))), none], [vI 1, vI (rd (A 100) (0 + (8 * i)))], LAY (u (u (u (u (u (shA A) 8 l8) 9 l9) 10 l10) 11 l11) 78 l78) (shF F), 0, 0)) hc153 13 rfl ⟨⟨by omega, by omega⟩, ⟨by omega, by omega⟩, ⟨by omega, by omega⟩, ⟨by omega, by omega⟩, trivial⟩ ?_
                refine R_ic (t := 74) hc153 rfl rfl (fun (_ : rd (A 100) (0 + (8 * i)) = 1) => ?_) (fun (z : ¬ (rd (A 100) (0 + (8 * i)) = 1)) => absurd (show rd (A 100) (0 + (8 * i)) = 1 by omega) z)
                refine R_s (P := inI ((0 + (8 * i)) + 2) ∧ (0 ≤ (0 + (8 * i)) + 2 ∧ (0 + (8 * i)) + 2 < ((A 100).length : Int)) ∧ inI ((0 + (8 * i)) + 4) ∧ (0 ≤ (0 + (8 * i)) + 4 ∧ (0 + (8 * i)) + 4 < ((A 100).length : Int)) ∧ True) (f' := (93, [some (vR 88), some (vI 0), some (vI i), some (vI p), some (vI lw), some (vI (0 + (8 * i))), none], [vI (rd (A 100) ((0 + (8 * i)) + 4)), vI (rd (A 100) ((0 + (8 * i)) + 2)), vR 88], LAY (u (u (u (u (u (shA A) 8 l8) 9 l9) 10 l10) 11 l11) 78 l78) (shF F), 0, 0)) hc153 13 rfl ⟨⟨by omega, by omega⟩, ⟨by omega, by omega⟩, ⟨by omega, by omega⟩, ⟨by omega, by omega⟩, trivial⟩ ?_
                refine R_cv hc153 rfl rfl (l_findShares (A := (u (u (u (u (u (shA A) 8 l8) 9 l9) 10 l10) 11 l11) 78 l78)) (F := (shF F)) (n := (F 3).toNat) (R_n hR0) (R_n30 hR0) (hL 4 (by decide)) (hL 5 (by decide)) (hL 6 (by decide)) (hL 94 (by decide)) (R_U (A := A) hR0) (fun p hp => (R_mT (A := A) hR0 p hp).1) (al := N_al A F) (N_al_m (A := A) hR0) (R_TR (A := A) hR0) (hL 3 (by decide)) (ro := (rd (A 23) i).toNat) (by omega) (by omega) (hL 104 (by decide)) (hL 105 (by decide)) (hL 110 (by decide)) (hL 111 (by decide)) (by omega)) (fun r G9 hp9 => ?_)
                obtain ⟨rfl, l104, l105, l110, l111, rfl, k104, k105, k110, k111, w0⟩ := hp9
                have e4 : rd (A 100) (0 + 8 * i + 4) = rd (A 25) i := by omega
                have w1 := w0 p.toNat (by omega)
                rw [show ((p.toNat : Nat) : Int) = p by omega] at w1
                have w2 : rd l110 p = (if sf = 0 then 0 else 1) ∧ rd l111 p = (if sf = 0 then 1 else sf) := by
                  rw [hsf, ← e4]
                  exact w1
                have w3 : (sf = 0 → rd l110 p = 0 ∧ rd l111 p = 1) ∧ (sf ≠ 0 → rd l110 p = 1 ∧ rd l111 p = sf) := ⟨fun h => by rw [w2.1, w2.2, if_pos h, if_pos h]; exact ⟨rfl, rfl⟩, fun h => by rw [w2.1, w2.2, if_neg h, if_neg h]; exact ⟨rfl, rfl⟩⟩
                refine R_s (f' := (96, [some (vR 88), some (vI 0), some (vI i), some (vI p), some (vI lw), some (vI (0 + (8 * i))), none], [], LAY (u (u (u (u (u (u (u (u (u (shA A) 8 l8) 9 l9) 10 l10) 11 l11) 78 l78) 104 l104) 105 l105) 110 l110) 111 l111) (shF F), 0, 0)) hc153 0 rfl trivial ?_
                refine R_s (P := True) (f' := (98, [some (vR 88), some (vI 0), some (vI i), some (vI p), some (vI lw), some (vI (0 + (8 * i))), none], [vI lw], LAY (u (u (u (u (u (u (u (u (u (shA A) 8 l8) 9 l9) 10 l10) 11 l11) 78 l78) 104 l104) 105 l105) 110 l110) 111 l111) (shF F), 0, 0)) hc153 1 rfl trivial ?_
                refine R_if (t := 110) hc153 rfl rfl (fun (z : lw = 0) => absurd z (by omega)) (fun (_ : ¬ (lw = 0)) => ?_)
                refine R_s (P := (0 ≤ p ∧ p < ((l111).length : Int)) ∧ True) (f' := (116, [some (vR 88), some (vI 0), some (vI i), some (vI p), some (vI lw), some (vI (0 + (8 * i))), none], [vJ (rd l111 p)], LAY (u (u (u (u (u (u (u (u (u (shA A) 8 l8) 9 l9) 10 l10) 11 l11) 78 l78) 104 l104) 105 l105) 110 l110) 111 l111) (shF F), 0, 0)) hc153 5 rfl ⟨⟨by omega, by omega⟩, trivial⟩ ?_
                refine R_retl hc153 rfl rfl ?_
                first
                  | (exfalso; omega; done)
                  | exact ⟨(by rw [show (rd l111 p : Int) = rd l78 p by omega]), (u (u (u (u (u (u (u (u (u A 8 l8) 9 l9) 10 l10) 11 l11) 78 l78) 104 l104) 105 l105) 110 l110) 111 l111), F, rfl, rfl, ⟨(LENS_u (LENS_u (LENS_u (LENS_u (LENS_u (LENS_u (LENS_u (LENS_u (LENS_u hL (by show (l8).length = (A 8).length; rw [k8, hL 8 (by decide)]; rfl)) (by show (l9).length = (A 9).length; rw [k9, hL 9 (by decide)]; rfl)) (by show (l10).length = (A 10).length; rw [k10, hL 10 (by decide)]; rfl)) (by show (l11).length = (A 11).length; rw [k11, hL 11 (by decide)]; rfl)) (by show (l78).length = (A 78).length; rw [k78, hL 78 (by decide)]; rfl)) (by show (l104).length = (A 104).length; rw [k104, hL 104 (by decide)]; rfl)) (by show (l105).length = (A 105).length; rw [k105, hL 105 (by decide)]; rfl)) (by show (l110).length = (A 110).length; rw [k110, hL 110 (by decide)]; rfl)) (by show (l111).length = (A 111).length; rw [k111, hL 111 (by decide)]; rfl)), hR0.2.1, hR0.2.2.1, hR0.2.2.2.1, hR0.2.2.2.2.1, hR0.2.2.2.2.2.1, hR0.2.2.2.2.2.2.1, hR0.2.2.2.2.2.2.2.1, hR0.2.2.2.2.2.2.2.2.1, (REFU_c hR0.2.2.2.2.2.2.2.2.2)⟩⟩
              · refine R_s (P := True) (f' := (126, [some (vR 1), some (vI 0), some (vI i), some (vI p), some (vI lw), some (vR 20), some (vI (rd l78 p))], [vJ 1], LAY (u (u (u (u (u (shA A) 8 l8) 9 l9) 10 l10) 11 l11) 78 l78) (shF F), 0, 0)) hc79 2 rfl trivial ?_
                refine R_retl hc79 rfl rfl ?_
                refine R_s (P := True) (f' := (2, [some (vR 88), some (vI 0), some (vI i), some (vI p), some (vI lw), none, none], [vI 0, vR 88], LAY (u (u (u (u (u (shA A) 8 l8) 9 l9) 10 l10) 11 l11) 78 l78) (shF F), 0, 0)) hc153 2 rfl trivial ?_
                refine R_cv hc153 rfl rfl ?_ (fun r G h => h)
                refine R_s (P := inI ((F 0) - 1) ∧ True) (f' := (8, [some (vR 88), some (vI 0)], [vI ((F 0) - 1), vI 0, vI 0], LAY (u (u (u (u (u (shA A) 8 l8) 9 l9) 10 l10) 11 l11) 78 l78) (shF F), 0, 0)) hc108 6 rfl ⟨⟨by omega, by omega⟩, trivial⟩ ?_
                refine R_cs hc108 rfl rfl ?_ (fun r G h => h)
                refine R_s (P := True) (f' := (2, [some (vI 0), some (vI 0), some (vI ((F 0) - 1))], [vI 0, vI 0], LAY (u (u (u (u (u (shA A) 8 l8) 9 l9) 10 l10) 11 l11) 78 l78) (shF F), 0, 0)) hc104 2 rfl trivial ?_
                refine R_ic (t := 14) hc104 rfl rfl (fun (z : 0 < 0) => absurd z (by decide)) (fun (_ : ¬ (0 < 0)) => ?_)
                refine R_s (P := True) (f' := (7, [some (vI 0), some (vI 0), some (vI ((F 0) - 1))], [vI ((F 0) - 1), vI 0], LAY (u (u (u (u (u (shA A) 8 l8) 9 l9) 10 l10) 11 l11) 78 l78) (shF F), 0, 0)) hc104 2 rfl trivial ?_
                refine R_ic (t := 14) hc104 rfl rfl (fun (z : (F 0) - 1 < 0) => absurd z (by omega)) (fun (_ : ¬ ((F 0) - 1 < 0)) => ?_)
                refine R_s (P := True) (f' := (15, [some (vI 0), some (vI 0), some (vI ((F 0) - 1))], [vI 1], LAY (u (u (u (u (u (shA A) 8 l8) 9 l9) 10 l10) 11 l11) 78 l78) (shF F), 0, 0)) hc104 2 rfl trivial ?_
                refine R_retz hc104 rfl rfl (Or.inr rfl) ?_
                refine R_s (f' := (11, [some (vR 88), some (vI 0)], [vI 1], LAY (u (u (u (u (u (shA A) 8 l8) 9 l9) 10 l10) 11 l11) 78 l78) (shF F), 0, 0)) hc108 0 rfl trivial ?_
                refine R_retz hc108 rfl rfl (Or.inr rfl) ?_
                refine R_s (f' := (5, [some (vR 88), some (vI 0), some (vI i), some (vI p), some (vI lw), none, none], [vI 1], LAY (u (u (u (u (u (shA A) 8 l8) 9 l9) 10 l10) 11 l11) 78 l78) (shF F), 0, 0)) hc153 0 rfl trivial ?_
                refine R_if (t := 32) hc153 rfl rfl (fun (z : 1 = 0) => absurd z (by decide)) (fun (_ : ¬ (1 = 0)) => ?_)
                refine R_s (P := (0 ≤ 0 ∧ 0 < ((A 99).length : Int)) ∧ inI ((rd (A 99) 0) - 1) ∧ True) (f' := (18, [some (vR 88), some (vI 0), some (vI i), some (vI p), some (vI lw), none, none], [vI ((rd (A 99) 0) - 1), vI 0, vI i], LAY (u (u (u (u (u (shA A) 8 l8) 9 l9) 10 l10) 11 l11) 78 l78) (shF F), 0, 0)) hc153 8 rfl ⟨⟨by omega, by omega⟩, ⟨by omega, by omega⟩, trivial⟩ ?_
                refine R_cs hc153 rfl rfl ?_ (fun r G h => h)
                refine R_s (P := True) (f' := (2, [some (vI i), some (vI 0), some (vI ((rd (A 99) 0) - 1))], [vI 0, vI i], LAY (u (u (u (u (u (shA A) 8 l8) 9 l9) 10 l10) 11 l11) 78 l78) (shF F), 0, 0)) hc104 2 rfl trivial ?_
                refine R_ic (t := 14) hc104 rfl rfl (fun (z : i < 0) => absurd z (by omega)) (fun (_ : ¬ (i < 0)) => ?_)
                refine R_s (P := True) (f' := (7, [some (vI i), some (vI 0), some (vI ((rd (A 99) 0) - 1))], [vI ((rd (A 99) 0) - 1), vI i], LAY (u (u (u (u (u (shA A) 8 l8) 9 l9) 10 l10) 11 l11) 78 l78) (shF F), 0, 0)) hc104 2 rfl trivial ?_
                refine R_ic (t := 14) hc104 rfl rfl (fun (z : (rd (A 99) 0) - 1 < i) => absurd z (by omega)) (fun (_ : ¬ ((rd (A 99) 0) - 1 < i)) => ?_)
                refine R_s (P := True) (f' := (15, [some (vI i), some (vI 0), some (vI ((rd (A 99) 0) - 1))], [vI 1], LAY (u (u (u (u (u (shA A) 8 l8) 9 l9) 10 l10) 11 l11) 78 l78) (shF F), 0, 0)) hc104 2 rfl trivial ?_
                refine R_retz hc104 rfl rfl (Or.inr rfl) ?_
                refine R_s (f' := (21, [some (vR 88), some (vI 0), some (vI i), some (vI p), some (vI lw), none, none], [vI 1], LAY (u (u (u (u (u (shA A) 8 l8) 9 l9) 10 l10) 11 l11) 78 l78) (shF F), 0, 0)) hc153 0 rfl trivial ?_
                refine R_if (t := 32) hc153 rfl rfl (fun (z : 1 = 0) => absurd z (by decide)) (fun (_ : ¬ (1 = 0)) => ?_)
                refine R_s (P := True) (f' := (26, [some (vR 88), some (vI 0), some (vI i), some (vI p), some (vI lw), none, none], [vI p, vR 88], LAY (u (u (u (u (u (shA A) 8 l8) 9 l9) 10 l10) 11 l11) 78 l78) (shF F), 0, 0)) hc153 2 rfl trivial ?_
                refine R_cv hc153 rfl rfl ?_ (fun r G h => h)
                refine R_s (P := inI ((F 3) - 1) ∧ True) (f' := (8, [some (vR 88), some (vI p)], [vI ((F 3) - 1), vI 0, vI p], LAY (u (u (u (u (u (shA A) 8 l8) 9 l9) 10 l10) 11 l11) 78 l78) (shF F), 0, 0)) hc106 6 rfl ⟨⟨by omega, by omega⟩, trivial⟩ ?_
                refine R_cs hc106 rfl rfl ?_ (fun r G h => h)
                refine R_s (P := True) (f' := (2, [some (vI p), some (vI 0), some (vI ((F 3) - 1))], [vI 0, vI p], LAY (u (u (u (u (u (shA A) 8 l8) 9 l9) 10 l10) 11 l11) 78 l78) (shF F), 0, 0)) hc104 2 rfl trivial ?_
                refine R_ic (t := 14) hc104 rfl rfl (fun (z : p < 0) => absurd z (by omega)) (fun (_ : ¬ (p < 0)) => ?_)
                refine R_s (P := True) (f' := (7, [some (vI p), some (vI 0), some (vI ((F 3) - 1))], [vI ((F 3) - 1), vI p], LAY (u (u (u (u (u (shA A) 8 l8) 9 l9) 10 l10) 11 l11) 78 l78) (shF F), 0, 0)) hc104 2 rfl trivial ?_
                refine R_ic (t := 14) hc104 rfl rfl (fun (z : (F 3) - 1 < p) => absurd z (by omega)) (fun (_ : ¬ ((F 3) - 1 < p)) => ?_)
                refine R_s (P := True) (f' := (15, [some (vI p), some (vI 0), some (vI ((F 3) - 1))], [vI 1], LAY (u (u (u (u (u (shA A) 8 l8) 9 l9) 10 l10) 11 l11) 78 l78) (shF F), 0, 0)) hc104 2 rfl trivial ?_
                refine R_retz hc104 rfl rfl (Or.inr rfl) ?_
                refine R_s (f' := (11, [some (vR 88), some (vI p)], [vI 1], LAY (u (u (u (u (u (shA A) 8 l8) 9 l9) 10 l10) 11 l11) 78 l78) (shF F), 0, 0)) hc106 0 rfl trivial ?_
                refine R_retz hc106 rfl rfl (Or.inr rfl) ?_
                refine R_s (f' := (29, [some (vR 88), some (vI 0), some (vI i), some (vI p), some (vI lw), none, none], [vI 1], LAY (u (u (u (u (u (shA A) 8 l8) 9 l9) 10 l10) 11 l11) 78 l78) (shF F), 0, 0)) hc153 0 rfl trivial ?_
                refine R_if (t := 42) hc153 rfl rfl (fun (_ : ¬ 1 = 0) => ?_) (fun (z : ¬ (¬ 1 = 0)) => absurd (by decide) z)
                refine R_s (P := inI 0 ∧ inI (8 * i) ∧ inI (0 + (8 * i)) ∧ (0 ≤ 0 + (8 * i) ∧ 0 + (8 * i) < ((A 100).length : Int)) ∧ True) (f' := (61, [some (vR 88), some (vI 0), some (vI i), some (vI p), some (vI lw), some (vI (0 + (8 * i))), none], [vI 1, vI (rd (A 100) (0 + (8 * i)))], LAY (u (u (u (u (u (shA A) 8 l8) 9 l9) 10 l10) 11 l11) 78 l78) (shF F), 0, 0)) hc153 13 rfl ⟨⟨by omega, by omega⟩, ⟨by omega, by omega⟩, ⟨by omega, by omega⟩, ⟨by omega, by omega⟩, trivial⟩ ?_
                refine R_ic (t := 74) hc153 rfl rfl (fun (_ : rd (A 100) (0 + (8 * i)) = 1) => ?_) (fun (z : ¬ (rd (A 100) (0 + (8 * i)) = 1)) => absurd (show rd (A 100) (0 + (8 * i)) = 1 by omega) z)
                refine R_s (P := inI ((0 + (8 * i)) + 2) ∧ (0 ≤ (0 + (8 * i)) + 2 ∧ (0 + (8 * i)) + 2 < ((A 100).length : Int)) ∧ inI ((0 + (8 * i)) + 4) ∧ (0 ≤ (0 + (8 * i)) + 4 ∧ (0 + (8 * i)) + 4 < ((A 100).length : Int)) ∧ True) (f' := (93, [some (vR 88), some (vI 0), some (vI i), some (vI p), some (vI lw), some (vI (0 + (8 * i))), none], [vI (rd (A 100) ((0 + (8 * i)) + 4)), vI (rd (A 100) ((0 + (8 * i)) + 2)), vR 88], LAY (u (u (u (u (u (shA A) 8 l8) 9 l9) 10 l10) 11 l11) 78 l78) (shF F), 0, 0)) hc153 13 rfl ⟨⟨by omega, by omega⟩, ⟨by omega, by omega⟩, ⟨by omega, by omega⟩, ⟨by omega, by omega⟩, trivial⟩ ?_
                refine R_cv hc153 rfl rfl (l_findShares (A := (u (u (u (u (u (shA A) 8 l8) 9 l9) 10 l10) 11 l11) 78 l78)) (F := (shF F)) (n := (F 3).toNat) (R_n hR0) (R_n30 hR0) (hL 4 (by decide)) (hL 5 (by decide)) (hL 6 (by decide)) (hL 94 (by decide)) (R_U (A := A) hR0) (fun p hp => (R_mT (A := A) hR0 p hp).1) (al := N_al A F) (N_al_m (A := A) hR0) (R_TR (A := A) hR0) (hL 3 (by decide)) (ro := (rd (A 23) i).toNat) (by omega) (by omega) (hL 104 (by decide)) (hL 105 (by decide)) (hL 110 (by decide)) (hL 111 (by decide)) (by omega)) (fun r G9 hp9 => ?_)
                obtain ⟨rfl, l104, l105, l110, l111, rfl, k104, k105, k110, k111, w0⟩ := hp9
                have e4 : rd (A 100) (0 + 8 * i + 4) = rd (A 25) i := by omega
                have w1 := w0 p.toNat (by omega)
                rw [show ((p.toNat : Nat) : Int) = p by omega] at w1
                have w2 : rd l110 p = (if sf = 0 then 0 else 1) ∧ rd l111 p = (if sf = 0 then 1 else sf) := by
                  rw [hsf, ← e4]
                  exact w1
                have w3 : (sf = 0 → rd l110 p = 0 ∧ rd l111 p = 1) ∧ (sf ≠ 0 → rd l110 p = 1 ∧ rd l111 p = sf) := ⟨fun h => by rw [w2.1, w2.2, if_pos h, if_pos h]; exact ⟨rfl, rfl⟩, fun h => by rw [w2.1, w2.2, if_neg h, if_neg h]; exact ⟨rfl, rfl⟩⟩
                refine R_s (f' := (96, [some (vR 88), some (vI 0), some (vI i), some (vI p), some (vI lw), some (vI (0 + (8 * i))), none], [], LAY (u (u (u (u (u (u (u (u (u (shA A) 8 l8) 9 l9) 10 l10) 11 l11) 78 l78) 104 l104) 105 l105) 110 l110) 111 l111) (shF F), 0, 0)) hc153 0 rfl trivial ?_
                refine R_s (P := True) (f' := (98, [some (vR 88), some (vI 0), some (vI i), some (vI p), some (vI lw), some (vI (0 + (8 * i))), none], [vI lw], LAY (u (u (u (u (u (u (u (u (u (shA A) 8 l8) 9 l9) 10 l10) 11 l11) 78 l78) 104 l104) 105 l105) 110 l110) 111 l111) (shF F), 0, 0)) hc153 1 rfl trivial ?_
                refine R_if (t := 110) hc153 rfl rfl (fun (z : lw = 0) => absurd z (by omega)) (fun (_ : ¬ (lw = 0)) => ?_)
                refine R_s (P := (0 ≤ p ∧ p < ((l111).length : Int)) ∧ True) (f' := (116, [some (vR 88), some (vI 0), some (vI i), some (vI p), some (vI lw), some (vI (0 + (8 * i))), none], [vJ (rd l111 p)], LAY (u (u (u (u (u (u (u (u (u (shA A) 8 l8) 9 l9) 10 l10) 11 l11) 78 l78) 104 l104) 105 l105) 110 l110) 111 l111) (shF F), 0, 0)) hc153 5 rfl ⟨⟨by omega, by omega⟩, trivial⟩ ?_
                refine R_retl hc153 rfl rfl ?_
                first
                  | (exfalso; omega; done)
                  | exact ⟨(by rw [show (rd l111 p : Int) = 1 by omega]), (u (u (u (u (u (u (u (u (u A 8 l8) 9 l9) 10 l10) 11 l11) 78 l78) 104 l104) 105 l105) 110 l110) 111 l111), F, rfl, rfl, ⟨(LENS_u (LENS_u (LENS_u (LENS_u (LENS_u (LENS_u (LENS_u (LENS_u (LENS_u hL (by show (l8).length = (A 8).length; rw [k8, hL 8 (by decide)]; rfl)) (by show (l9).length = (A 9).length; rw [k9, hL 9 (by decide)]; rfl)) (by show (l10).length = (A 10).length; rw [k10, hL 10 (by decide)]; rfl)) (by show (l11).length = (A 11).length; rw [k11, hL 11 (by decide)]; rfl)) (by show (l78).length = (A 78).length; rw [k78, hL 78 (by decide)]; rfl)) (by show (l104).length = (A 104).length; rw [k104, hL 104 (by decide)]; rfl)) (by show (l105).length = (A 105).length; rw [k105, hL 105 (by decide)]; rfl)) (by show (l110).length = (A 110).length; rw [k110, hL 110 (by decide)]; rfl)) (by show (l111).length = (A 111).length; rw [k111, hL 111 (by decide)]; rfl)), hR0.2.1, hR0.2.2.1, hR0.2.2.2.1, hR0.2.2.2.2.1, hR0.2.2.2.2.2.1, hR0.2.2.2.2.2.2.1, hR0.2.2.2.2.2.2.2.1, hR0.2.2.2.2.2.2.2.2.1, (REFU_c hR0.2.2.2.2.2.2.2.2.2)⟩⟩
          · refine R_s (P := True) (f' := (55, [some (vR 1), some (vI 0), some (vI i), some (vI p), some (vI lw), some (vR 20), none], [vI (-5), vR 1], LAY (shA A) (shF F), 0, 0)) hc79 2 rfl trivial ?_
            refine R_cv hc79 rfl rfl ?_ (fun r G h => h)
            refine R_s (P := True) (f' := (3, [some (vR 1), some (vI (-5))], [vI (-2), vI (-5)], LAY (shA A) (shF F), 0, 0)) hc93 2 rfl trivial ?_
            refine R_ic (t := 23) hc93 rfl rfl (fun (z : (-2) < (-5)) => absurd z (by decide)) (fun (_ : ¬ ((-2) < (-5))) => ?_)
            refine R_s (P := True) (f' := (9, [some (vR 1), some (vI (-5))], [vI (-8), vI (-5)], LAY (shA A) (shF F), 0, 0)) hc93 2 rfl trivial ?_
            refine R_ic (t := 23) hc93 rfl rfl (fun (z : (-5) < (-8)) => absurd z (by decide)) (fun (_ : ¬ ((-5) < (-8))) => ?_)
            refine R_s (P := inI 5 ∧ (0 ≤ 5 ∧ 5 < ((A 87).length : Int)) ∧ inI ((rd (A 87) 5) + 1) ∧ (0 ≤ 5 ∧ 5 < ((A 87).length : Int)) ∧ True) (f' := (24, [some (vR 1), some (vI (-5))], [vI (-5)], LAY (u (shA A) 87 (wr (A 87) 5 ((rd (A 87) 5) + 1))) (shF F), 0, 0)) hc93 10 rfl ⟨⟨by omega, by omega⟩, ⟨by omega, by omega⟩, ⟨by omega, by omega⟩, ⟨by omega, by omega⟩, trivial⟩ ?_
            refine R_reti hc93 rfl rfl ?_
            refine R_s (f' := (58, [some (vR 1), some (vI 0), some (vI i), some (vI p), some (vI lw), some (vR 20), none], [vI (-5)], LAY (u (shA A) 87 (wr (A 87) 5 ((rd (A 87) 5) + 1))) (shF F), 0, 0)) hc79 0 rfl trivial ?_
            refine R_s (P := True) (f' := (60, [some (vR 1), some (vI 0), some (vI i), some (vI p), some (vI lw), some (vR 20), none], [vJ 0], LAY (u (shA A) 87 (wr (A 87) 5 ((rd (A 87) 5) + 1))) (shF F), 0, 0)) hc79 2 rfl trivial ?_
            refine R_retl hc79 rfl rfl ?_
            refine R_s (P := True) (f' := (2, [some (vR 88), some (vI 0), some (vI i), some (vI p), some (vI lw), none, none], [vI 0, vR 88], LAY (u (shA A) 87 (wr (A 87) 5 ((rd (A 87) 5) + 1))) (shF F), 0, 0)) hc153 2 rfl trivial ?_
            refine R_cv hc153 rfl rfl ?_ (fun r G h => h)
            refine R_s (P := inI ((F 0) - 1) ∧ True) (f' := (8, [some (vR 88), some (vI 0)], [vI ((F 0) - 1), vI 0, vI 0], LAY (u (shA A) 87 (wr (A 87) 5 ((rd (A 87) 5) + 1))) (shF F), 0, 0)) hc108 6 rfl ⟨⟨by omega, by omega⟩, trivial⟩ ?_
            refine R_cs hc108 rfl rfl ?_ (fun r G h => h)
            refine R_s (P := True) (f' := (2, [some (vI 0), some (vI 0), some (vI ((F 0) - 1))], [vI 0, vI 0], LAY (u (shA A) 87 (wr (A 87) 5 ((rd (A 87) 5) + 1))) (shF F), 0, 0)) hc104 2 rfl trivial ?_
            refine R_ic (t := 14) hc104 rfl rfl (fun (z : 0 < 0) => absurd z (by decide)) (fun (_ : ¬ (0 < 0)) => ?_)
            refine R_s (P := True) (f' := (7, [some (vI 0), some (vI 0), some (vI ((F 0) - 1))], [vI ((F 0) - 1), vI 0], LAY (u (shA A) 87 (wr (A 87) 5 ((rd (A 87) 5) + 1))) (shF F), 0, 0)) hc104 2 rfl trivial ?_
            refine R_ic (t := 14) hc104 rfl rfl (fun (z : (F 0) - 1 < 0) => absurd z (by omega)) (fun (_ : ¬ ((F 0) - 1 < 0)) => ?_)
            refine R_s (P := True) (f' := (15, [some (vI 0), some (vI 0), some (vI ((F 0) - 1))], [vI 1], LAY (u (shA A) 87 (wr (A 87) 5 ((rd (A 87) 5) + 1))) (shF F), 0, 0)) hc104 2 rfl trivial ?_
            refine R_retz hc104 rfl rfl (Or.inr rfl) ?_
            refine R_s (f' := (11, [some (vR 88), some (vI 0)], [vI 1], LAY (u (shA A) 87 (wr (A 87) 5 ((rd (A 87) 5) + 1))) (shF F), 0, 0)) hc108 0 rfl trivial ?_
            refine R_retz hc108 rfl rfl (Or.inr rfl) ?_
            refine R_s (f' := (5, [some (vR 88), some (vI 0), some (vI i), some (vI p), some (vI lw), none, none], [vI 1], LAY (u (shA A) 87 (wr (A 87) 5 ((rd (A 87) 5) + 1))) (shF F), 0, 0)) hc153 0 rfl trivial ?_
            refine R_if (t := 32) hc153 rfl rfl (fun (z : 1 = 0) => absurd z (by decide)) (fun (_ : ¬ (1 = 0)) => ?_)
            refine R_s (P := (0 ≤ 0 ∧ 0 < ((A 99).length : Int)) ∧ inI ((rd (A 99) 0) - 1) ∧ True) (f' := (18, [some (vR 88), some (vI 0), some (vI i), some (vI p), some (vI lw), none, none], [vI ((rd (A 99) 0) - 1), vI 0, vI i], LAY (u (shA A) 87 (wr (A 87) 5 ((rd (A 87) 5) + 1))) (shF F), 0, 0)) hc153 8 rfl ⟨⟨by omega, by omega⟩, ⟨by omega, by omega⟩, trivial⟩ ?_
            refine R_cs hc153 rfl rfl ?_ (fun r G h => h)
            refine R_s (P := True) (f' := (2, [some (vI i), some (vI 0), some (vI ((rd (A 99) 0) - 1))], [vI 0, vI i], LAY (u (shA A) 87 (wr (A 87) 5 ((rd (A 87) 5) + 1))) (shF F), 0, 0)) hc104 2 rfl trivial ?_
            refine R_ic (t := 14) hc104 rfl rfl (fun (z : i < 0) => absurd z (by omega)) (fun (_ : ¬ (i < 0)) => ?_)
            refine R_s (P := True) (f' := (7, [some (vI i), some (vI 0), some (vI ((rd (A 99) 0) - 1))], [vI ((rd (A 99) 0) - 1), vI i], LAY (u (shA A) 87 (wr (A 87) 5 ((rd (A 87) 5) + 1))) (shF F), 0, 0)) hc104 2 rfl trivial ?_
            refine R_ic (t := 14) hc104 rfl rfl (fun (z : (rd (A 99) 0) - 1 < i) => absurd z (by omega)) (fun (_ : ¬ ((rd (A 99) 0) - 1 < i)) => ?_)
            refine R_s (P := True) (f' := (15, [some (vI i), some (vI 0), some (vI ((rd (A 99) 0) - 1))], [vI 1], LAY (u (shA A) 87 (wr (A 87) 5 ((rd (A 87) 5) + 1))) (shF F), 0, 0)) hc104 2 rfl trivial ?_
            refine R_retz hc104 rfl rfl (Or.inr rfl) ?_
            refine R_s (f' := (21, [some (vR 88), some (vI 0), some (vI i), some (vI p), some (vI lw), none, none], [vI 1], LAY (u (shA A) 87 (wr (A 87) 5 ((rd (A 87) 5) + 1))) (shF F), 0, 0)) hc153 0 rfl trivial ?_
            refine R_if (t := 32) hc153 rfl rfl (fun (z : 1 = 0) => absurd z (by decide)) (fun (_ : ¬ (1 = 0)) => ?_)
            refine R_s (P := True) (f' := (26, [some (vR 88), some (vI 0), some (vI i), some (vI p), some (vI lw), none, none], [vI p, vR 88], LAY (u (shA A) 87 (wr (A 87) 5 ((rd (A 87) 5) + 1))) (shF F), 0, 0)) hc153 2 rfl trivial ?_
            refine R_cv hc153 rfl rfl ?_ (fun r G h => h)
            refine R_s (P := inI ((F 3) - 1) ∧ True) (f' := (8, [some (vR 88), some (vI p)], [vI ((F 3) - 1), vI 0, vI p], LAY (u (shA A) 87 (wr (A 87) 5 ((rd (A 87) 5) + 1))) (shF F), 0, 0)) hc106 6 rfl ⟨⟨by omega, by omega⟩, trivial⟩ ?_
            refine R_cs hc106 rfl rfl ?_ (fun r G h => h)
            refine R_s (P := True) (f' := (2, [some (vI p), some (vI 0), some (vI ((F 3) - 1))], [vI 0, vI p], LAY (u (shA A) 87 (wr (A 87) 5 ((rd (A 87) 5) + 1))) (shF F), 0, 0)) hc104 2 rfl trivial ?_
            refine R_ic (t := 14) hc104 rfl rfl (fun (z : p < 0) => absurd z (by omega)) (fun (_ : ¬ (p < 0)) => ?_)
            refine R_s (P := True) (f' := (7, [some (vI p), some (vI 0), some (vI ((F 3) - 1))], [vI ((F 3) - 1), vI p], LAY (u (shA A) 87 (wr (A 87) 5 ((rd (A 87) 5) + 1))) (shF F), 0, 0)) hc104 2 rfl trivial ?_
            refine R_ic (t := 14) hc104 rfl rfl (fun (z : (F 3) - 1 < p) => absurd z (by omega)) (fun (_ : ¬ ((F 3) - 1 < p)) => ?_)
            refine R_s (P := True) (f' := (15, [some (vI p), some (vI 0), some (vI ((F 3) - 1))], [vI 1], LAY (u (shA A) 87 (wr (A 87) 5 ((rd (A 87) 5) + 1))) (shF F), 0, 0)) hc104 2 rfl trivial ?_
            refine R_retz hc104 rfl rfl (Or.inr rfl) ?_
            refine R_s (f' := (11, [some (vR 88), some (vI p)], [vI 1], LAY (u (shA A) 87 (wr (A 87) 5 ((rd (A 87) 5) + 1))) (shF F), 0, 0)) hc106 0 rfl trivial ?_
            refine R_retz hc106 rfl rfl (Or.inr rfl) ?_
            refine R_s (f' := (29, [some (vR 88), some (vI 0), some (vI i), some (vI p), some (vI lw), none, none], [vI 1], LAY (u (shA A) 87 (wr (A 87) 5 ((rd (A 87) 5) + 1))) (shF F), 0, 0)) hc153 0 rfl trivial ?_
            refine R_if (t := 42) hc153 rfl rfl (fun (_ : ¬ 1 = 0) => ?_) (fun (z : ¬ (¬ 1 = 0)) => absurd (by decide) z)
            refine R_s (P := inI 0 ∧ inI (8 * i) ∧ inI (0 + (8 * i)) ∧ (0 ≤ 0 + (8 * i) ∧ 0 + (8 * i) < ((A 100).length : Int)) ∧ True) (f' := (61, [some (vR 88), some (vI 0), some (vI i), some (vI p), some (vI lw), some (vI (0 + (8 * i))), none], [vI 1, vI (rd (A 100) (0 + (8 * i)))], LAY (u (shA A) 87 (wr (A 87) 5 ((rd (A 87) 5) + 1))) (shF F), 0, 0)) hc153 13 rfl ⟨⟨by omega, by omega⟩, ⟨by omega, by omega⟩, ⟨by omega, by omega⟩, ⟨by omega, by omega⟩, trivial⟩ ?_
            refine R_ic (t := 74) hc153 rfl rfl (fun (z : rd (A 100) (0 + (8 * i)) = 1) => absurd z (by omega)) (fun (_ : ¬ (rd (A 100) (0 + (8 * i)) = 1)) => ?_)
            refine R_s (P := True) (f' := (67, [some (vR 88), some (vI 0), some (vI i), some (vI p), some (vI lw), some (vI (0 + (8 * i))), none], [vI (-5), vR 88], LAY (u (shA A) 87 (wr (A 87) 5 ((rd (A 87) 5) + 1))) (shF F), 0, 0)) hc153 2 rfl trivial ?_
            refine R_cv hc153 rfl rfl ?_ (fun r G h => h)
            refine R_s (P := inI 5 ∧ (0 ≤ 5 ∧ 5 < ((A 87).length : Int)) ∧ inI ((rd (A 87) 5) + 1) ∧ (0 ≤ 5 ∧ 5 < ((A 87).length : Int)) ∧ True) (f' := (12, [some (vR 88), some (vI (-5))], [vI (-5)], LAY (u (u (shA A) 87 (wr (A 87) 5 ((rd (A 87) 5) + 1))) 89 (wr (A 87) 5 ((rd (A 87) 5) + 1))) (shF F), 0, 0)) hc105 10 rfl ⟨⟨by omega, by omega⟩, ⟨by omega, by omega⟩, ⟨by omega, by omega⟩, ⟨by omega, by omega⟩, trivial⟩ ?_
            refine R_reti hc105 rfl rfl ?_
            refine R_s (f' := (70, [some (vR 88), some (vI 0), some (vI i), some (vI p), some (vI lw), some (vI (0 + (8 * i))), none], [vI (-5)], LAY (u (u (shA A) 87 (wr (A 87) 5 ((rd (A 87) 5) + 1))) 89 (wr (A 87) 5 ((rd (A 87) 5) + 1))) (shF F), 0, 0)) hc153 0 rfl trivial ?_
            refine R_s (P := True) (f' := (73, [some (vR 88), some (vI 0), some (vI i), some (vI p), some (vI lw), some (vI (0 + (8 * i))), some (vI (-5))], [vJ 0], LAY (u (u (shA A) 87 (wr (A 87) 5 ((rd (A 87) 5) + 1))) 89 (wr (A 87) 5 ((rd (A 87) 5) + 1))) (shF F), 0, 0)) hc153 2 rfl trivial ?_
            refine R_retl hc153 rfl rfl ?_
            first
              | (exfalso; omega; done)
              | exact ⟨rfl, (u A 87 (wr (A 87) 5 ((rd (A 87) 5) + 1))), F, rfl, rfl, REL_ref hR0 (by decide) (by decide)⟩

