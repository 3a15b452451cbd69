theorem sum6_wr {l : List Int} {t d v : Int} (hl : l.length = 60) (ht : 0 ≤ t ∧ t < 10) (hd : 0 ≤ d ∧ d < 6) (t' : Int) (ht' : 0 ≤ t' ∧ t' < 10) : sum6 (wr l (t * 6 + d) v) t' = if t' = t then sum6 l t + (v - rd l (t * 6 + d)) else sum6 l t' := by
  unfold sum6
  rw [rd_wr (by omega) (by omega) (by omega), rd_wr (by omega) (by omega) (by omega), rd_wr (by omega) (by omega) (by omega), rd_wr (by omega) (by omega) (by omega), rd_wr (by omega) (by omega) (by omega), rd_wr (by omega) (by omega) (by omega)]
  by_cases e : t' = t
  · subst e
    rw [if_pos rfl]
    obtain h | h | h | h | h | h : d = 0 ∨ d = 1 ∨ d = 2 ∨ d = 3 ∨ d = 4 ∨ d = 5 := by omega
    all_goals subst h
    · rw [if_pos (by omega), if_neg (by omega), if_neg (by omega), if_neg (by omega), if_neg (by omega), if_neg (by omega), show t' * 6 + 0 = t' * 6 by omega]; omega
    · rw [if_neg (by omega), if_pos rfl, if_neg (by omega), if_neg (by omega), if_neg (by omega), if_neg (by omega)]; omega
    · rw [if_neg (by omega), if_neg (by omega), if_pos rfl, if_neg (by omega), if_neg (by omega), if_neg (by omega)]; omega
    · rw [if_neg (by omega), if_neg (by omega), if_neg (by omega), if_pos rfl, if_neg (by omega), if_neg (by omega)]; omega
    · rw [if_neg (by omega), if_neg (by omega), if_neg (by omega), if_neg (by omega), if_pos rfl, if_neg (by omega)]; omega
    · rw [if_neg (by omega), if_neg (by omega), if_neg (by omega), if_neg (by omega), if_neg (by omega), if_pos rfl]; omega
  · rw [if_neg e, if_neg (by omega), if_neg (by omega), if_neg (by omega), if_neg (by omega), if_neg (by omega), if_neg (by omega)]
theorem REL_part {c : Int} {A : Nat → List Int} {F : Nat → Int} (h : REL c A F) {t d n : Int} (ht : 0 ≤ t ∧ t < F 4) (hd : 0 ≤ d ∧ d < F 0) (hn : 1 ≤ n ∧ n ≤ 12 - sum6 (A 16) t) : REL (c + 1) (u A 16 (wr (A 16) (t * 6 + d) (rd (A 16) (t * 6 + d) + n))) F := by
  obtain ⟨hL, hPE, ⟨t1, t2, t3, t4, t5, t6⟩, hTP, hDE, hLE, hNO, hAC, hRO, hRE⟩ := REL_c h
  have l16 : (A 16).length = 60 := hL 16 (by decide)
  have hd6 : F 0 ≤ 6 := hDE.1.2
  refine ⟨LENS_wr hL 16 _ _, hPE, ⟨t1, t2, t3, t4, fun i hi hi2 => ?_, fun t' h0 h1 => ?_⟩, hTP, hDE, hLE, hNO, hAC, hRO, hRE⟩
  · show 0 ≤ rd (wr (A 16) (t * 6 + d) (rd (A 16) (t * 6 + d) + n)) i ∧ rd (wr (A 16) (t * 6 + d) (rd (A 16) (t * 6 + d) + n)) i ≤ 12
    rw [rd_wr (by omega) (by omega) hi]
    have q := t5 i hi hi2
    have q0 := t5 (t * 6) (by omega) (by omega)
    have q1 := t5 (t * 6 + 1) (by omega) (by omega)
    have q2 := t5 (t * 6 + 2) (by omega) (by omega)
    have q3 := t5 (t * 6 + 3) (by omega) (by omega)
    have q4 := t5 (t * 6 + 4) (by omega) (by omega)
    have q5 := t5 (t * 6 + 5) (by omega) (by omega)
    by_cases e : i = t * 6 + d
    · rw [if_pos e]
      unfold sum6 at hn
      obtain h | h | h | h | h | h : d = 0 ∨ d = 1 ∨ d = 2 ∨ d = 3 ∨ d = 4 ∨ d = 5 := by omega
      all_goals subst h
      · rw [show t * 6 + 0 = t * 6 by omega]; omega
      all_goals omega
    · rw [if_neg e]
      exact q
  · show sum6 (wr (A 16) (t * 6 + d) (rd (A 16) (t * 6 + d) + n)) t' ≤ 12
    rw [sum6_wr l16 (by omega) (by omega) t' ⟨h0, h1⟩]
    have := t6 t' h0 h1
    split
    · omega
    · exact this
theorem REL_tape {c : Int} {A : Nat → List Int} {F : Nat → Int} (h : REL c A F) {l : List Int} {n : Int} (hl : l.length = (A 18).length) (hn : 0 ≤ n ∧ n ≤ 120) : REL (c + 1) (u A 18 l) (u F 5 n) := by
  obtain ⟨hL, hPE, hTH, hTP, hDE, hLE, hNO, hAC, hRO, hRE⟩ := REL_c h
  exact ⟨LENS_u hL hl, hPE, hTH, hn, hDE, hLE, hNO, hAC, hRO, hRE⟩
theorem REL_tape0 {c : Int} {A : Nat → List Int} {F : Nat → Int} (h : REL c A F) {n : Int} (hn : 0 ≤ n ∧ n ≤ 120) : REL (c + 1) A (u F 5 n) := by
  obtain ⟨hL, hPE, hTH, hTP, hDE, hLE, hNO, hAC, hRO, hRE⟩ := REL_c h
  exact ⟨hL, hPE, hTH, hn, hDE, hLE, hNO, hAC, hRO, hRE⟩
theorem op_account {c : Int} {A : Nat → List Int} {F : Nat → Int} (hR : REL c A F) (hc : c < 512) (w h : Int) (i_w : inI w) (i_h : inI h) (hh : h = 0 ∨ h = 1) : R 82 (0, L0 82 [vR 1, vI w, vI h], [], LAY (shA A) (shF F), 0, 0) (fun r G => (∃ x, r = some (vJ x)) ∧ (∃ (A1 : Nat → List Int) (F1 : Nat → Int), G = LAY A1 F1 ∧ A1 0 = A 0) ∧ R 156 (0, L0 156 [vR 88, vI w, vI h], [], G, 0, 0) (fun r2 G2 => r2 = r ∧ ∃ (A' : Nat → List Int) (F' : Nat → Int), G2 = LAY (shA A') (shF F') ∧ A' 0 = A 0 ∧ REL (c + 1) A' F')) := by
  have hR0 := hR
  obtain ⟨hL, hPE, hTH, hTP, hDE, hLE, hNO, hAC, hRO, hRE⟩ := hR
  have j_w := i_w
  unfold inI at j_w
  have j_h := i_h
  unfold inI at j_h
  have h87 : (A 87).length = 9 := hL 87 (by decide)
  have h3 : (A 3).length = 30 := hL 3 (by decide)
  have h4 : (A 4).length = 30 := hL 4 (by decide)
  have h5 : (A 5).length = 30 := hL 5 (by decide)
  have h6 : (A 6).length = 30 := hL 6 (by decide)
  have h7 : (A 7).length = 30 := hL 7 (by decide)
  have h94 : (A 94).length = 30 := hL 94 (by decide)
  have h13 : (A 13).length = 10 := hL 13 (by decide)
  have h14 : (A 14).length = 10 := hL 14 (by decide)
  have h15 : (A 15).length = 10 := hL 15 (by decide)
  have h16 : (A 16).length = 60 := hL 16 (by decide)
  have h80 : (A 80).length = 30 := hL 80 (by decide)
  have h81 : (A 81).length = 30 := hL 81 (by decide)
  have h82 : (A 82).length = 30 := hL 82 (by decide)
  have h83 : (A 83).length = 30 := hL 83 (by decide)
  have h84 : (A 84).length = 30 := hL 84 (by decide)
  have h85 : (A 85).length = 8 := hL 85 (by decide)
  have h101 : (A 101).length = 38 := hL 101 (by decide)
  have h102 : (A 102).length = 90 := hL 102 (by decide)
  have r2 := REFU_at hRE (k := 2) (by decide) (by decide) hc
  have r3 := REFU_at hRE (k := 3) (by decide) (by decide) hc
  have r4 := REFU_at hRE (k := 4) (by decide) (by decide) hc
  have r5 := REFU_at hRE (k := 5) (by decide) (by decide) hc
  have r6 := REFU_at hRE (k := 6) (by decide) (by decide) hc
  have r7 := REFU_at hRE (k := 7) (by decide) (by decide) hc
  have r8 := REFU_at hRE (k := 8) (by decide) (by decide) hc
  obtain ⟨t1, t2, t3, t4, t5, t6⟩ := hTH
  obtain ⟨p1, p2, p3, p4, p5, p6⟩ := hPE
  have a1 := hAC.1 w
  have a2 := hAC.2 w
  refine R_s (P := True) (f' := (1, [some (vR 1), some (vI w), some (vI h)], [vI h], LAY (shA A) (shF F), 0, 0)) hc82 1 rfl trivial ?_
  refine R_if (t := 21) hc82 rfl rfl (fun (c1 : h = 0) => ?_) (fun (c1 : ¬ (h = 0)) => ?_)
  · refine R_s (P := True) (f' := (26, [some (vR 1), some (vI w), some (vI h)], [vI w, vR 2], LAY (shA A) (shF F), 0, 0)) hc82 3 rfl trivial ?_
    refine R_cv hc82 rfl rfl ?_ (fun r G h => h)
    refine R_s (P := True) (f' := (1, [some (vR 2), some (vI w)], [vI w], LAY (shA A) (shF F), 0, 0)) hc5 1 rfl trivial ?_
    refine R_if (t := 16) hc5 rfl rfl (fun (c2 : w < 0) => ?_) (fun (c2 : ¬ (w < 0)) => ?_)
    · refine R_s (P := True) (f' := (17, [some (vR 2), some (vI w)], [vI 0], LAY (shA A) (shF F), 0, 0)) hc5 1 rfl trivial ?_
      refine R_retz hc5 rfl rfl (Or.inl rfl) ?_
      refine R_s (f' := (29, [some (vR 1), some (vI w), some (vI h)], [vI 0], LAY (shA A) (shF F), 0, 0)) hc82 0 rfl trivial ?_
      refine R_if (t := 39) hc82 rfl rfl (fun (_ : 0 = 0) => ?_) (fun (z : ¬ (0 = 0)) => absurd (by decide) z)
      refine R_s (P := True) (f' := (42, [some (vR 1), some (vI w), some (vI h)], [vI (-3), vR 1], LAY (shA A) (shF F), 0, 0)) hc82 2 rfl trivial ?_
      refine R_cv hc82 rfl rfl ?_ (fun r G h => h)
      refine R_s (P := True) (f' := (3, [some (vR 1), some (vI (-3))], [vI (-2), vI (-3)], LAY (shA A) (shF F), 0, 0)) hc93 2 rfl trivial ?_
      refine R_ic (t := 23) hc93 rfl rfl (fun (z : (-2) < (-3)) => absurd z (by decide)) (fun (_ : ¬ ((-2) < (-3))) => ?_)
      refine R_s (P := True) (f' := (9, [some (vR 1), some (vI (-3))], [vI (-8), vI (-3)], LAY (shA A) (shF F), 0, 0)) hc93 2 rfl trivial ?_
      refine R_ic (t := 23) hc93 rfl rfl (fun (z : (-3) < (-8)) => absurd z (by decide)) (fun (_ : ¬ ((-3) < (-8))) => ?_)
      refine R_s (P := inI 3 ∧ (0 ≤ 3 ∧ 3 < ((A 87).length : Int)) ∧ inI ((rd (A 87) 3) + 1) ∧ (0 ≤ 3 ∧ 3 < ((A 87).length : Int)) ∧ True) (f' := (24, [some (vR 1), some (vI (-3))], [vI (-3)], LAY (u (shA A) 87 (wr (A 87) 3 ((rd (A 87) 3) + 1))) (shF F), 0, 0)) hc93 10 rfl ⟨⟨by omega, by omega⟩, ⟨by omega, by omega⟩, ⟨by omega, by omega⟩, ⟨by omega, by omega⟩, trivial⟩ ?_
      refine R_reti hc93 rfl rfl ?_
      refine R_s (f' := (45, [some (vR 1), some (vI w), some (vI h)], [vI (-3)], LAY (u (shA A) 87 (wr (A 87) 3 ((rd (A 87) 3) + 1))) (shF F), 0, 0)) hc82 0 rfl trivial ?_
      refine R_s (P := True) (f' := (47, [some (vR 1), some (vI w), some (vI h)], [vJ 0], LAY (u (shA A) 87 (wr (A 87) 3 ((rd (A 87) 3) + 1))) (shF F), 0, 0)) hc82 2 rfl trivial ?_
      refine R_retl hc82 rfl rfl ⟨⟨_, rfl⟩, ⟨_, _, rfl, rfl⟩, ?_⟩
      refine R_s (P := True) (f' := (1, [some (vR 88), some (vI w), some (vI h), none], [vI h], LAY (u (shA A) 87 (wr (A 87) 3 ((rd (A 87) 3) + 1))) (shF F), 0, 0)) hc156 1 rfl trivial ?_
      refine R_if (t := 17) hc156 rfl rfl (fun (_ : h = 0) => ?_) (fun (z : ¬ (h = 0)) => absurd (show h = 0 by omega) z)
      refine R_s (P := True) (f' := (19, [some (vR 88), some (vI w), some (vI h), none], [vI w, vR 88], LAY (u (shA A) 87 (wr (A 87) 3 ((rd (A 87) 3) + 1))) (shF F), 0, 0)) hc156 2 rfl trivial ?_
      refine R_cv hc156 rfl rfl ?_ (fun r G h => h)
      refine R_s (P := inI ((F 3) - 1) ∧ True) (f' := (8, [some (vR 88), some (vI w)], [vI ((F 3) - 1), vI 0, vI w], LAY (u (shA A) 87 (wr (A 87) 3 ((rd (A 87) 3) + 1))) (shF F), 0, 0)) hc106 6 rfl ⟨⟨by omega, by omega⟩, trivial⟩ ?_
      refine R_cs hc106 rfl rfl ?_ (fun r G h => h)
      refine R_s (P := True) (f' := (2, [some (vI w), some (vI 0), some (vI ((F 3) - 1))], [vI 0, vI w], LAY (u (shA A) 87 (wr (A 87) 3 ((rd (A 87) 3) + 1))) (shF F), 0, 0)) hc104 2 rfl trivial ?_
      refine R_ic (t := 14) hc104 rfl rfl (fun (_ : w < 0) => ?_) (fun (z : ¬ (w < 0)) => absurd (show w < 0 by omega) z)
      refine R_s (P := True) (f' := (15, [some (vI w), some (vI 0), some (vI ((F 3) - 1))], [vI 0], LAY (u (shA A) 87 (wr (A 87) 3 ((rd (A 87) 3) + 1))) (shF F), 0, 0)) hc104 1 rfl trivial ?_
      refine R_retz hc104 rfl rfl (Or.inl rfl) ?_
      refine R_s (f' := (11, [some (vR 88), some (vI w)], [vI 0], LAY (u (shA A) 87 (wr (A 87) 3 ((rd (A 87) 3) + 1))) (shF F), 0, 0)) hc106 0 rfl trivial ?_
      refine R_retz hc106 rfl rfl (Or.inl rfl) ?_
      refine R_s (f' := (22, [some (vR 88), some (vI w), some (vI h), none], [vI 0], LAY (u (shA A) 87 (wr (A 87) 3 ((rd (A 87) 3) + 1))) (shF F), 0, 0)) hc156 0 rfl trivial ?_
      refine R_if (t := 34) hc156 rfl rfl (fun (z : ¬ 0 = 0) => absurd z (by decide)) (fun (_ : ¬ (¬ 0 = 0)) => ?_)
      refine R_s (P := True) (f' := (28, [some (vR 88), some (vI w), some (vI h), none], [vI (-3), vR 88], LAY (u (shA A) 87 (wr (A 87) 3 ((rd (A 87) 3) + 1))) (shF F), 0, 0)) hc156 2 rfl trivial ?_
      refine R_cv hc156 rfl rfl ?_ (fun r G h => h)
      refine R_s (P := inI 3 ∧ (0 ≤ 3 ∧ 3 < ((A 87).length : Int)) ∧ inI ((rd (A 87) 3) + 1) ∧ (0 ≤ 3 ∧ 3 < ((A 87).length : Int)) ∧ True) (f' := (12, [some (vR 88), some (vI (-3))], [vI (-3)], LAY (u (u (shA A) 87 (wr (A 87) 3 ((rd (A 87) 3) + 1))) 89 (wr (A 87) 3 ((rd (A 87) 3) + 1))) (shF F), 0, 0)) hc105 10 rfl ⟨⟨by omega, by omega⟩, ⟨by omega, by omega⟩, ⟨by omega, by omega⟩, ⟨by omega, by omega⟩, trivial⟩ ?_
      refine R_reti hc105 rfl rfl ?_
      refine R_s (f' := (31, [some (vR 88), some (vI w), some (vI h), none], [vI (-3)], LAY (u (u (shA A) 87 (wr (A 87) 3 ((rd (A 87) 3) + 1))) 89 (wr (A 87) 3 ((rd (A 87) 3) + 1))) (shF F), 0, 0)) hc156 0 rfl trivial ?_
      refine R_s (P := True) (f' := (33, [some (vR 88), some (vI w), some (vI h), some (vI (-3))], [vJ 0], LAY (u (u (shA A) 87 (wr (A 87) 3 ((rd (A 87) 3) + 1))) 89 (wr (A 87) 3 ((rd (A 87) 3) + 1))) (shF F), 0, 0)) hc156 2 rfl trivial ?_
      refine R_retl hc156 rfl rfl ?_
      first
        | (exfalso; omega; done)
        | exact ⟨rfl, (u A 87 (wr (A 87) 3 ((rd (A 87) 3) + 1))), F, rfl, rfl, REL_ref hR0 (by decide) (by decide)⟩
    · refine R_s (P := True) (f' := (9, [some (vR 2), some (vI w)], [vI (F 3), vI w], LAY (shA A) (shF F), 0, 0)) hc5 3 rfl trivial ?_
      refine R_ic (t := 16) hc5 rfl rfl (fun (c3 : F 3 ≤ w) => ?_) (fun (c3 : ¬ (F 3 ≤ w)) => ?_)
      · refine R_s (P := True) (f' := (17, [some (vR 2), some (vI w)], [vI 0], LAY (shA A) (shF F), 0, 0)) hc5 1 rfl trivial ?_
        refine R_retz hc5 rfl rfl (Or.inl rfl) ?_
        refine R_s (f' := (29, [some (vR 1), some (vI w), some (vI h)], [vI 0], LAY (shA A) (shF F), 0, 0)) hc82 0 rfl trivial ?_
        refine R_if (t := 39) hc82 rfl rfl (fun (_ : 0 = 0) => ?_) (fun (z : ¬ (0 = 0)) => absurd (by decide) z)
        refine R_s (P := True) (f' := (42, [some (vR 1), some (vI w), some (vI h)], [vI (-3), vR 1], LAY (shA A) (shF F), 0, 0)) hc82 2 rfl trivial ?_
        refine R_cv hc82 rfl rfl ?_ (fun r G h => h)
        refine R_s (P := True) (f' := (3, [some (vR 1), some (vI (-3))], [vI (-2), vI (-3)], LAY (shA A) (shF F), 0, 0)) hc93 2 rfl trivial ?_
        refine R_ic (t := 23) hc93 rfl rfl (fun (z : (-2) < (-3)) => absurd z (by decide)) (fun (_ : ¬ ((-2) < (-3))) => ?_)
        refine R_s (P := True) (f' := (9, [some (vR 1), some (vI (-3))], [vI (-8), vI (-3)], LAY (shA A) (shF F), 0, 0)) hc93 2 rfl trivial ?_
        refine R_ic (t := 23) hc93 rfl rfl (fun (z : (-3) < (-8)) => absurd z (by decide)) (fun (_ : ¬ ((-3) < (-8))) => ?_)
        refine R_s (P := inI 3 ∧ (0 ≤ 3 ∧ 3 < ((A 87).length : Int)) ∧ inI ((rd (A 87) 3) + 1) ∧ (0 ≤ 3 ∧ 3 < ((A 87).length : Int)) ∧ True) (f' := (24, [some (vR 1), some (vI (-3))], [vI (-3)], LAY (u (shA A) 87 (wr (A 87) 3 ((rd (A 87) 3) + 1))) (shF F), 0, 0)) hc93 10 rfl ⟨⟨by omega, by omega⟩, ⟨by omega, by omega⟩, ⟨by omega, by omega⟩, ⟨by omega, by omega⟩, trivial⟩ ?_
        refine R_reti hc93 rfl rfl ?_
        refine R_s (f' := (45, [some (vR 1), some (vI w), some (vI h)], [vI (-3)], LAY (u (shA A) 87 (wr (A 87) 3 ((rd (A 87) 3) + 1))) (shF F), 0, 0)) hc82 0 rfl trivial ?_
        refine R_s (P := True) (f' := (47, [some (vR 1), some (vI w), some (vI h)], [vJ 0], LAY (u (shA A) 87 (wr (A 87) 3 ((rd (A 87) 3) + 1))) (shF F), 0, 0)) hc82 2 rfl trivial ?_
        refine R_retl hc82 rfl rfl ⟨⟨_, rfl⟩, ⟨_, _, rfl, rfl⟩, ?_⟩
        refine R_s (P := True) (f' := (1, [some (vR 88), some (vI w), some (vI h), none], [vI h], LAY (u (shA A) 87 (wr (A 87) 3 ((rd (A 87) 3) + 1))) (shF F), 0, 0)) hc156 1 rfl trivial ?_
        refine R_if (t := 17) hc156 rfl rfl (fun (_ : h = 0) => ?_) (fun (z : ¬ (h = 0)) => absurd (show h = 0 by omega) z)
        refine R_s (P := True) (f' := (19, [some (vR 88), some (vI w), some (vI h), none], [vI w, vR 88], LAY (u (shA A) 87 (wr (A 87) 3 ((rd (A 87) 3) + 1))) (shF F), 0, 0)) hc156 2 rfl trivial ?_
        refine R_cv hc156 rfl rfl ?_ (fun r G h => h)
        refine R_s (P := inI ((F 3) - 1) ∧ True) (f' := (8, [some (vR 88), some (vI w)], [vI ((F 3) - 1), vI 0, vI w], LAY (u (shA A) 87 (wr (A 87) 3 ((rd (A 87) 3) + 1))) (shF F), 0, 0)) hc106 6 rfl ⟨⟨by omega, by omega⟩, trivial⟩ ?_
        refine R_cs hc106 rfl rfl ?_ (fun r G h => h)
        refine R_s (P := True) (f' := (2, [some (vI w), some (vI 0), some (vI ((F 3) - 1))], [vI 0, vI w], LAY (u (shA A) 87 (wr (A 87) 3 ((rd (A 87) 3) + 1))) (shF F), 0, 0)) hc104 2 rfl trivial ?_
        refine R_ic (t := 14) hc104 rfl rfl (fun (z : w < 0) => absurd z (by omega)) (fun (_ : ¬ (w < 0)) => ?_)
        refine R_s (P := True) (f' := (7, [some (vI w), some (vI 0), some (vI ((F 3) - 1))], [vI ((F 3) - 1), vI w], LAY (u (shA A) 87 (wr (A 87) 3 ((rd (A 87) 3) + 1))) (shF F), 0, 0)) hc104 2 rfl trivial ?_
        refine R_ic (t := 14) hc104 rfl rfl (fun (_ : (F 3) - 1 < w) => ?_) (fun (z : ¬ ((F 3) - 1 < w)) => absurd (show (F 3) - 1 < w by omega) z)
        refine R_s (P := True) (f' := (15, [some (vI w), some (vI 0), some (vI ((F 3) - 1))], [vI 0], LAY (u (shA A) 87 (wr (A 87) 3 ((rd (A 87) 3) + 1))) (shF F), 0, 0)) hc104 1 rfl trivial ?_
        refine R_retz hc104 rfl rfl (Or.inl rfl) ?_
        refine R_s (f' := (11, [some (vR 88), some (vI w)], [vI 0], LAY (u (shA A) 87 (wr (A 87) 3 ((rd (A 87) 3) + 1))) (shF F), 0, 0)) hc106 0 rfl trivial ?_
        refine R_retz hc106 rfl rfl (Or.inl rfl) ?_
        refine R_s (f' := (22, [some (vR 88), some (vI w), some (vI h), none], [vI 0], LAY (u (shA A) 87 (wr (A 87) 3 ((rd (A 87) 3) + 1))) (shF F), 0, 0)) hc156 0 rfl trivial ?_
        refine R_if (t := 34) hc156 rfl rfl (fun (z : ¬ 0 = 0) => absurd z (by decide)) (fun (_ : ¬ (¬ 0 = 0)) => ?_)
        refine R_s (P := True) (f' := (28, [some (vR 88), some (vI w), some (vI h), none], [vI (-3), vR 88], LAY (u (shA A) 87 (wr (A 87) 3 ((rd (A 87) 3) + 1))) (shF F), 0, 0)) hc156 2 rfl trivial ?_
        refine R_cv hc156 rfl rfl ?_ (fun r G h => h)
        refine R_s (P := inI 3 ∧ (0 ≤ 3 ∧ 3 < ((A 87).length : Int)) ∧ inI ((rd (A 87) 3) + 1) ∧ (0 ≤ 3 ∧ 3 < ((A 87).length : Int)) ∧ True) (f' := (12, [some (vR 88), some (vI (-3))], [vI (-3)], LAY (u (u (shA A) 87 (wr (A 87) 3 ((rd (A 87) 3) + 1))) 89 (wr (A 87) 3 ((rd (A 87) 3) + 1))) (shF F), 0, 0)) hc105 10 rfl ⟨⟨by omega, by omega⟩, ⟨by omega, by omega⟩, ⟨by omega, by omega⟩, ⟨by omega, by omega⟩, trivial⟩ ?_
        refine R_reti hc105 rfl rfl ?_
        refine R_s (f' := (31, [some (vR 88), some (vI w), some (vI h), none], [vI (-3)], LAY (u (u (shA A) 87 (wr (A 87) 3 ((rd (A 87) 3) + 1))) 89 (wr (A 87) 3 ((rd (A 87) 3) + 1))) (shF F), 0, 0)) hc156 0 rfl trivial ?_
        refine R_s (P := True) (f' := (33, [some (vR 88), some (vI w), some (vI h), some (vI (-3))], [vJ 0], LAY (u (u (shA A) 87 (wr (A 87) 3 ((rd (A 87) 3) + 1))) 89 (wr (A 87) 3 ((rd (A 87) 3) + 1))) (shF F), 0, 0)) hc156 2 rfl trivial ?_
        refine R_retl hc156 rfl rfl ?_
        first
          | (exfalso; omega; done)
          | exact ⟨rfl, (u A 87 (wr (A 87) 3 ((rd (A 87) 3) + 1))), F, rfl, rfl, REL_ref hR0 (by decide) (by decide)⟩
      · refine R_s (P := True) (f' := (17, [some (vR 2), some (vI w)], [vI 1], LAY (shA A) (shF F), 0, 0)) hc5 2 rfl trivial ?_
        refine R_retz hc5 rfl rfl (Or.inr rfl) ?_
        refine R_s (f' := (29, [some (vR 1), some (vI w), some (vI h)], [vI 1], LAY (shA A) (shF F), 0, 0)) hc82 0 rfl trivial ?_
        refine R_if (t := 39) hc82 rfl rfl (fun (z : 1 = 0) => absurd z (by decide)) (fun (_ : ¬ (1 = 0)) => ?_)
        refine R_s (P := (0 ≤ w ∧ w < ((A 84).length : Int)) ∧ True) (f' := (38, [some (vR 1), some (vI w), some (vI h)], [vJ (rd (A 84) w)], LAY (shA A) (shF F), 0, 0)) hc82 4 rfl ⟨⟨by omega, by omega⟩, trivial⟩ ?_
        refine R_retl hc82 rfl rfl ⟨⟨_, rfl⟩, ⟨_, _, rfl, rfl⟩, ?_⟩
        refine R_s (P := True) (f' := (1, [some (vR 88), some (vI w), some (vI h), none], [vI h], LAY (shA A) (shF F), 0, 0)) hc156 1 rfl trivial ?_
        refine R_if (t := 17) hc156 rfl rfl (fun (_ : h = 0) => ?_) (fun (z : ¬ (h = 0)) => absurd (show h = 0 by omega) z)
        refine R_s (P := True) (f' := (19, [some (vR 88), some (vI w), some (vI h), none], [vI w, vR 88], LAY (shA A) (shF F), 0, 0)) hc156 2 rfl trivial ?_
        refine R_cv hc156 rfl rfl ?_ (fun r G h => h)
        refine R_s (P := inI ((F 3) - 1) ∧ True) (f' := (8, [some (vR 88), some (vI w)], [vI ((F 3) - 1), vI 0, vI w], LAY (shA A) (shF F), 0, 0)) hc106 6 rfl ⟨⟨by omega, by omega⟩, trivial⟩ ?_
        refine R_cs hc106 rfl rfl ?_ (fun r G h => h)
        refine R_s (P := True) (f' := (2, [some (vI w), some (vI 0), some (vI ((F 3) - 1))], [vI 0, vI w], LAY (shA A) (shF F), 0, 0)) hc104 2 rfl trivial ?_
        refine R_ic (t := 14) hc104 rfl rfl (fun (z : w < 0) => absurd z (by omega)) (fun (_ : ¬ (w < 0)) => ?_)
        refine R_s (P := True) (f' := (7, [some (vI w), some (vI 0), some (vI ((F 3) - 1))], [vI ((F 3) - 1), vI w], LAY (shA A) (shF F), 0, 0)) hc104 2 rfl trivial ?_
        refine R_ic (t := 14) hc104 rfl rfl (fun (z : (F 3) - 1 < w) => absurd z (by omega)) (fun (_ : ¬ ((F 3) - 1 < w)) => ?_)
        refine R_s (P := True) (f' := (15, [some (vI w), some (vI 0), some (vI ((F 3) - 1))], [vI 1], LAY (shA A) (shF F), 0, 0)) hc104 2 rfl trivial ?_
        refine R_retz hc104 rfl rfl (Or.inr rfl) ?_
        refine R_s (f' := (11, [some (vR 88), some (vI w)], [vI 1], LAY (shA A) (shF F), 0, 0)) hc106 0 rfl trivial ?_
        refine R_retz hc106 rfl rfl (Or.inr rfl) ?_
        refine R_s (f' := (22, [some (vR 88), some (vI w), some (vI h), none], [vI 1], LAY (shA A) (shF F), 0, 0)) hc156 0 rfl trivial ?_
        refine R_if (t := 34) hc156 rfl rfl (fun (_ : ¬ 1 = 0) => ?_) (fun (z : ¬ (¬ 1 = 0)) => absurd (by decide) z)
        refine R_s (P := True) (f' := (39, [some (vR 88), some (vI w), some (vI h), none], [vI h, vR 101], LAY (shA A) (shF F), 0, 0)) hc156 3 rfl trivial ?_
        refine R_if (t := 49) hc156 rfl rfl (fun (_ : h = 0) => ?_) (fun (z : ¬ (h = 0)) => absurd (show h = 0 by omega) z)
        refine R_s (P := (0 ≤ w ∧ w < ((A 101).length : Int)) ∧ True) (f' := (51, [some (vR 88), some (vI w), some (vI h), none], [vJ (rd (A 101) w)], LAY (shA A) (shF F), 0, 0)) hc156 2 rfl ⟨⟨by omega, by omega⟩, trivial⟩ ?_
        refine R_retl hc156 rfl rfl ?_
        first
          | (exfalso; omega; done)
          | exact ⟨(by rw [show (rd (A 101) w : Int) = rd (A 84) w by omega]), A, F, rfl, rfl, REL_c hR0⟩
  · refine R_s (P := True) (f' := (5, [some (vR 1), some (vI w), some (vI h)], [vI w], LAY (shA A) (shF F), 0, 0)) hc82 1 rfl trivial ?_
    refine R_if (t := 39) hc82 rfl rfl (fun (c5 : w < 0) => ?_) (fun (c5 : ¬ (w < 0)) => ?_)
    · refine R_s (P := True) (f' := (42, [some (vR 1), some (vI w), some (vI h)], [vI (-3), vR 1], LAY (shA A) (shF F), 0, 0)) hc82 2 rfl trivial ?_
      refine R_cv hc82 rfl rfl ?_ (fun r G h => h)
      refine R_s (P := True) (f' := (3, [some (vR 1), some (vI (-3))], [vI (-2), vI (-3)], LAY (shA A) (shF F), 0, 0)) hc93 2 rfl trivial ?_
      refine R_ic (t := 23) hc93 rfl rfl (fun (z : (-2) < (-3)) => absurd z (by decide)) (fun (_ : ¬ ((-2) < (-3))) => ?_)
      refine R_s (P := True) (f' := (9, [some (vR 1), some (vI (-3))], [vI (-8), vI (-3)], LAY (shA A) (shF F), 0, 0)) hc93 2 rfl trivial ?_
      refine R_ic (t := 23) hc93 rfl rfl (fun (z : (-3) < (-8)) => absurd z (by decide)) (fun (_ : ¬ ((-3) < (-8))) => ?_)
      refine R_s (P := inI 3 ∧ (0 ≤ 3 ∧ 3 < ((A 87).length : Int)) ∧ inI ((rd (A 87) 3) + 1) ∧ (0 ≤ 3 ∧ 3 < ((A 87).length : Int)) ∧ True) (f' := (24, [some (vR 1), some (vI (-3))], [vI (-3)], LAY (u (shA A) 87 (wr (A 87) 3 ((rd (A 87) 3) + 1))) (shF F), 0, 0)) hc93 10 rfl ⟨⟨by omega, by omega⟩, ⟨by omega, by omega⟩, ⟨by omega, by omega⟩, ⟨by omega, by omega⟩, trivial⟩ ?_
      refine R_reti hc93 rfl rfl ?_
      refine R_s (f' := (45, [some (vR 1), some (vI w), some (vI h)], [vI (-3)], LAY (u (shA A) 87 (wr (A 87) 3 ((rd (A 87) 3) + 1))) (shF F), 0, 0)) hc82 0 rfl trivial ?_
      refine R_s (P := True) (f' := (47, [some (vR 1), some (vI w), some (vI h)], [vJ 0], LAY (u (shA A) 87 (wr (A 87) 3 ((rd (A 87) 3) + 1))) (shF F), 0, 0)) hc82 2 rfl trivial ?_
      refine R_retl hc82 rfl rfl ⟨⟨_, rfl⟩, ⟨_, _, rfl, rfl⟩, ?_⟩
      refine R_s (P := True) (f' := (1, [some (vR 88), some (vI w), some (vI h), none], [vI h], LAY (u (shA A) 87 (wr (A 87) 3 ((rd (A 87) 3) + 1))) (shF F), 0, 0)) hc156 1 rfl trivial ?_
      refine R_if (t := 17) hc156 rfl rfl (fun (z : h = 0) => absurd z (by omega)) (fun (_ : ¬ (h = 0)) => ?_)
      refine R_s (P := True) (f' := (8, [some (vR 88), some (vI w), some (vI h), none], [vI 7, vI 0, vI w], LAY (u (shA A) 87 (wr (A 87) 3 ((rd (A 87) 3) + 1))) (shF F), 0, 0)) hc156 3 rfl trivial ?_
      refine R_cs hc156 rfl rfl ?_ (fun r G h => h)
      refine R_s (P := True) (f' := (2, [some (vI w), some (vI 0), some (vI 7)], [vI 0, vI w], LAY (u (shA A) 87 (wr (A 87) 3 ((rd (A 87) 3) + 1))) (shF F), 0, 0)) hc104 2 rfl trivial ?_
      refine R_ic (t := 14) hc104 rfl rfl (fun (_ : w < 0) => ?_) (fun (z : ¬ (w < 0)) => absurd (show w < 0 by omega) z)
      refine R_s (P := True) (f' := (15, [some (vI w), some (vI 0), some (vI 7)], [vI 0], LAY (u (shA A) 87 (wr (A 87) 3 ((rd (A 87) 3) + 1))) (shF F), 0, 0)) hc104 1 rfl trivial ?_
      refine R_retz hc104 rfl rfl (Or.inl rfl) ?_
      refine R_s (f' := (11, [some (vR 88), some (vI w), some (vI h), none], [vI 0], LAY (u (shA A) 87 (wr (A 87) 3 ((rd (A 87) 3) + 1))) (shF F), 0, 0)) hc156 0 rfl trivial ?_
      refine R_if (t := 34) hc156 rfl rfl (fun (z : ¬ 0 = 0) => absurd z (by decide)) (fun (_ : ¬ (¬ 0 = 0)) => ?_)
      refine R_s (P := True) (f' := (28, [some (vR 88), some (vI w), some (vI h), none], [vI (-3), vR 88], LAY (u (shA A) 87 (wr (A 87) 3 ((rd (A 87) 3) + 1))) (shF F), 0, 0)) hc156 3 rfl trivial ?_
      refine R_cv hc156 rfl rfl ?_ (fun r G h => h)
      refine R_s (P := inI 3 ∧ (0 ≤ 3 ∧ 3 < ((A 87).length : Int)) ∧ inI ((rd (A 87) 3) + 1) ∧ (0 ≤ 3 ∧ 3 < ((A 87).length : Int)) ∧ True) (f' := (12, [some (vR 88), some (vI (-3))], [vI (-3)], LAY (u (u (shA A) 87 (wr (A 87) 3 ((rd (A 87) 3) + 1))) 89 (wr (A 87) 3 ((rd (A 87) 3) + 1))) (shF F), 0, 0)) hc105 10 rfl ⟨⟨by omega, by omega⟩, ⟨by omega, by omega⟩, ⟨by omega, by omega⟩, ⟨by omega, by omega⟩, trivial⟩ ?_
      refine R_reti hc105 rfl rfl ?_
      refine R_s (f' := (31, [some (vR 88), some (vI w), some (vI h), none], [vI (-3)], LAY (u (u (shA A) 87 (wr (A 87) 3 ((rd (A 87) 3) + 1))) 89 (wr (A 87) 3 ((rd (A 87) 3) + 1))) (shF F), 0, 0)) hc156 0 rfl trivial ?_
      refine R_s (P := True) (f' := (33, [some (vR 88), some (vI w), some (vI h), some (vI (-3))], [vJ 0], LAY (u (u (shA A) 87 (wr (A 87) 3 ((rd (A 87) 3) + 1))) 89 (wr (A 87) 3 ((rd (A 87) 3) + 1))) (shF F), 0, 0)) hc156 2 rfl trivial ?_
      refine R_retl hc156 rfl rfl ?_
      first
        | (exfalso; omega; done)
        | exact ⟨rfl, (u A 87 (wr (A 87) 3 ((rd (A 87) 3) + 1))), F, rfl, rfl, REL_ref hR0 (by decide) (by decide)⟩
    · refine R_s (P := True) (f' := (11, [some (vR 1), some (vI w), some (vI h)], [vI 8, vI w], LAY (shA A) (shF F), 0, 0)) hc82 2 rfl trivial ?_
      refine R_ic (t := 39) hc82 rfl rfl (fun (c8 : 8 ≤ w) => ?_) (fun (c8 : ¬ (8 ≤ w)) => ?_)
      · refine R_s (P := True) (f' := (42, [some (vR 1), some (vI w), some (vI h)], [vI (-3), vR 1], LAY (shA A) (shF F), 0, 0)) hc82 2 rfl trivial ?_
        refine R_cv hc82 rfl rfl ?_ (fun r G h => h)
        refine R_s (P := True) (f' := (3, [some (vR 1), some (vI (-3))], [vI (-2), vI (-3)], LAY (shA A) (shF F), 0, 0)) hc93 2 rfl trivial ?_
        refine R_ic (t := 23) hc93 rfl rfl (fun (z : (-2) < (-3)) => absurd z (by decide)) (fun (_ : ¬ ((-2) < (-3))) => ?_)
        refine R_s (P := True) (f' := (9, [some (vR 1), some (vI (-3))], [vI (-8), vI (-3)], LAY (shA A) (shF F), 0, 0)) hc93 2 rfl trivial ?_
        refine R_ic (t := 23) hc93 rfl rfl (fun (z : (-3) < (-8)) => absurd z (by decide)) (fun (_ : ¬ ((-3) < (-8))) => ?_)
        refine R_s (P := inI 3 ∧ (0 ≤ 3 ∧ 3 < ((A 87).length : Int)) ∧ inI ((rd (A 87) 3) + 1) ∧ (0 ≤ 3 ∧ 3 < ((A 87).length : Int)) ∧ True) (f' := (24, [some (vR 1), some (vI (-3))], [vI (-3)], LAY (u (shA A) 87 (wr (A 87) 3 ((rd (A 87) 3) + 1))) (shF F), 0, 0)) hc93 10 rfl ⟨⟨by omega, by omega⟩, ⟨by omega, by omega⟩, ⟨by omega, by omega⟩, ⟨by omega, by omega⟩, trivial⟩ ?_
        refine R_reti hc93 rfl rfl ?_
        refine R_s (f' := (45, [some (vR 1), some (vI w), some (vI h)], [vI (-3)], LAY (u (shA A) 87 (wr (A 87) 3 ((rd (A 87) 3) + 1))) (shF F), 0, 0)) hc82 0 rfl trivial ?_
        refine R_s (P := True) (f' := (47, [some (vR 1), some (vI w), some (vI h)], [vJ 0], LAY (u (shA A) 87 (wr (A 87) 3 ((rd (A 87) 3) + 1))) (shF F), 0, 0)) hc82 2 rfl trivial ?_
        refine R_retl hc82 rfl rfl ⟨⟨_, rfl⟩, ⟨_, _, rfl, rfl⟩, ?_⟩
        refine R_s (P := True) (f' := (1, [some (vR 88), some (vI w), some (vI h), none], [vI h], LAY (u (shA A) 87 (wr (A 87) 3 ((rd (A 87) 3) + 1))) (shF F), 0, 0)) hc156 1 rfl trivial ?_
        refine R_if (t := 17) hc156 rfl rfl (fun (z : h = 0) => absurd z (by omega)) (fun (_ : ¬ (h = 0)) => ?_)
        refine R_s (P := True) (f' := (8, [some (vR 88), some (vI w), some (vI h), none], [vI 7, vI 0, vI w], LAY (u (shA A) 87 (wr (A 87) 3 ((rd (A 87) 3) + 1))) (shF F), 0, 0)) hc156 3 rfl trivial ?_
        refine R_cs hc156 rfl rfl ?_ (fun r G h => h)
        refine R_s (P := True) (f' := (2, [some (vI w), some (vI 0), some (vI 7)], [vI 0, vI w], LAY (u (shA A) 87 (wr (A 87) 3 ((rd (A 87) 3) + 1))) (shF F), 0, 0)) hc104 2 rfl trivial ?_
        refine R_ic (t := 14) hc104 rfl rfl (fun (z : w < 0) => absurd z (by omega)) (fun (_ : ¬ (w < 0)) => ?_)
        refine R_s (P := True) (f' := (7, [some (vI w), some (vI 0), some (vI 7)], [vI 7, vI w], LAY (u (shA A) 87 (wr (A 87) 3 ((rd (A 87) 3) + 1))) (shF F), 0, 0)) hc104 2 rfl trivial ?_
        refine R_ic (t := 14) hc104 rfl rfl (fun (_ : 7 < w) => ?_) (fun (z : ¬ (7 < w)) => absurd (show 7 < w by omega) z)
        refine R_s (P := True) (f' := (15, [some (vI w), some (vI 0), some (vI 7)], [vI 0], LAY (u (shA A) 87 (wr (A 87) 3 ((rd (A 87) 3) + 1))) (shF F), 0, 0)) hc104 1 rfl trivial ?_
        refine R_retz hc104 rfl rfl (Or.inl rfl) ?_
        refine R_s (f' := (11, [some (vR 88), some (vI w), some (vI h), none], [vI 0], LAY (u (shA A) 87 (wr (A 87) 3 ((rd (A 87) 3) + 1))) (shF F), 0, 0)) hc156 0 rfl trivial ?_
        refine R_if (t := 34) hc156 rfl rfl (fun (z : ¬ 0 = 0) => absurd z (by decide)) (fun (_ : ¬ (¬ 0 = 0)) => ?_)
        refine R_s (P := True) (f' := (28, [some (vR 88), some (vI w), some (vI h), none], [vI (-3), vR 88], LAY (u (shA A) 87 (wr (A 87) 3 ((rd (A 87) 3) + 1))) (shF F), 0, 0)) hc156 3 rfl trivial ?_
        refine R_cv hc156 rfl rfl ?_ (fun r G h => h)
        refine R_s (P := inI 3 ∧ (0 ≤ 3 ∧ 3 < ((A 87).length : Int)) ∧ inI ((rd (A 87) 3) + 1) ∧ (0 ≤ 3 ∧ 3 < ((A 87).length : Int)) ∧ True) (f' := (12, [some (vR 88), some (vI (-3))], [vI (-3)], LAY (u (u (shA A) 87 (wr (A 87) 3 ((rd (A 87) 3) + 1))) 89 (wr (A 87) 3 ((rd (A 87) 3) + 1))) (shF F), 0, 0)) hc105 10 rfl ⟨⟨by omega, by omega⟩, ⟨by omega, by omega⟩, ⟨by omega, by omega⟩, ⟨by omega, by omega⟩, trivial⟩ ?_
        refine R_reti hc105 rfl rfl ?_
        refine R_s (f' := (31, [some (vR 88), some (vI w), some (vI h), none], [vI (-3)], LAY (u (u (shA A) 87 (wr (A 87) 3 ((rd (A 87) 3) + 1))) 89 (wr (A 87) 3 ((rd (A 87) 3) + 1))) (shF F), 0, 0)) hc156 0 rfl trivial ?_
        refine R_s (P := True) (f' := (33, [some (vR 88), some (vI w), some (vI h), some (vI (-3))], [vJ 0], LAY (u (u (shA A) 87 (wr (A 87) 3 ((rd (A 87) 3) + 1))) 89 (wr (A 87) 3 ((rd (A 87) 3) + 1))) (shF F), 0, 0)) hc156 2 rfl trivial ?_
        refine R_retl hc156 rfl rfl ?_
        first
          | (exfalso; omega; done)
          | exact ⟨rfl, (u A 87 (wr (A 87) 3 ((rd (A 87) 3) + 1))), F, rfl, rfl, REL_ref hR0 (by decide) (by decide)⟩
      · refine R_s (P := (0 ≤ w ∧ w < ((A 85).length : Int)) ∧ True) (f' := (20, [some (vR 1), some (vI w), some (vI h)], [vJ (rd (A 85) w)], LAY (shA A) (shF F), 0, 0)) hc82 4 rfl ⟨⟨by omega, by omega⟩, trivial⟩ ?_
        refine R_retl hc82 rfl rfl ⟨⟨_, rfl⟩, ⟨_, _, rfl, rfl⟩, ?_⟩
        refine R_s (P := True) (f' := (1, [some (vR 88), some (vI w), some (vI h), none], [vI h], LAY (shA A) (shF F), 0, 0)) hc156 1 rfl trivial ?_
        refine R_if (t := 17) hc156 rfl rfl (fun (z : h = 0) => absurd z (by omega)) (fun (_ : ¬ (h = 0)) => ?_)
        refine R_s (P := True) (f' := (8, [some (vR 88), some (vI w), some (vI h), none], [vI 7, vI 0, vI w], LAY (shA A) (shF F), 0, 0)) hc156 3 rfl trivial ?_
        refine R_cs hc156 rfl rfl ?_ (fun r G h => h)
        refine R_s (P := True) (f' := (2, [some (vI w), some (vI 0), some (vI 7)], [vI 0, vI w], LAY (shA A) (shF F), 0, 0)) hc104 2 rfl trivial ?_
        refine R_ic (t := 14) hc104 rfl rfl (fun (z : w < 0) => absurd z (by omega)) (fun (_ : ¬ (w < 0)) => ?_)
        refine R_s (P := True) (f' := (7, [some (vI w), some (vI 0), some (vI 7)], [vI 7, vI w], LAY (shA A) (shF F), 0, 0)) hc104 2 rfl trivial ?_
        refine R_ic (t := 14) hc104 rfl rfl (fun (z : 7 < w) => absurd z (by omega)) (fun (_ : ¬ (7 < w)) => ?_)
        refine R_s (P := True) (f' := (15, [some (vI w), some (vI 0), some (vI 7)], [vI 1], LAY (shA A) (shF F), 0, 0)) hc104 2 rfl trivial ?_
        refine R_retz hc104 rfl rfl (Or.inr rfl) ?_
        refine R_s (f' := (11, [some (vR 88), some (vI w), some (vI h), none], [vI 1], LAY (shA A) (shF F), 0, 0)) hc156 0 rfl trivial ?_
        refine R_if (t := 34) hc156 rfl rfl (fun (_ : ¬ 1 = 0) => ?_) (fun (z : ¬ (¬ 1 = 0)) => absurd (by decide) z)
        refine R_s (P := True) (f' := (39, [some (vR 88), some (vI w), some (vI h), none], [vI h, vR 101], LAY (shA A) (shF F), 0, 0)) hc156 3 rfl trivial ?_
        refine R_if (t := 49) hc156 rfl rfl (fun (z : h = 0) => absurd z (by omega)) (fun (_ : ¬ (h = 0)) => ?_)
        refine R_s (P := inI (30 + w) ∧ (0 ≤ 30 + w ∧ 30 + w < ((A 101).length : Int)) ∧ True) (f' := (51, [some (vR 88), some (vI w), some (vI h), none], [vJ (rd (A 101) (30 + w))], LAY (shA A) (shF F), 0, 0)) hc156 5 rfl ⟨⟨by omega, by omega⟩, ⟨by omega, by omega⟩, trivial⟩ ?_
        refine R_retl hc156 rfl rfl ?_
        first
          | (exfalso; omega; done)
          | exact ⟨(by rw [show (rd (A 101) (30 + w) : Int) = rd (A 85) w by omega]), A, F, rfl, rfl, REL_c hR0⟩

theorem op_leased {c : Int} {A : Nat → List Int} {F : Nat → Int} (hR : REL c A F) (hc : c < 512) (l q : Int) (i_l : inI l) (i_q : inI q) : R 84 (0, L0 84 [vR 1, vI l, vI q], [], LAY (shA A) (shF F), 0, 0) (fun r G => (∃ x, r = some (vI x)) ∧ (∃ (A1 : Nat → List Int) (F1 : Nat → Int), G = LAY A1 F1 ∧ A1 0 = A 0) ∧ R 159 (0, L0 159 [vR 88, vI l, vI q], [], G, 0, 0) (fun r2 G2 => r2 = r ∧ ∃ (A' : Nat → List Int) (F' : Nat → Int), G2 = LAY (shA A') (shF F') ∧ A' 0 = A 0 ∧ REL (c + 1) A' F')) := by
  have hR0 := hR
  obtain ⟨hL, hPE, hTH, hTP, hDE, hLE, hNO, hAC, hRO, hRE⟩ := hR
  have j_l := i_l
  unfold inI at j_l
  have j_q := i_q
  unfold inI at j_q
  have h87 : (A 87).length = 9 := hL 87 (by decide)
  have h3 : (A 3).length = 30 := hL 3 (by decide)
  have h4 : (A 4).length = 30 := hL 4 (by decide)
  have h5 : (A 5).length = 30 := hL 5 (by decide)
  have h6 : (A 6).length = 30 := hL 6 (by decide)
  have h7 : (A 7).length = 30 := hL 7 (by decide)
  have h94 : (A 94).length = 30 := hL 94 (by decide)
  have h13 : (A 13).length = 10 := hL 13 (by decide)
  have h14 : (A 14).length = 10 := hL 14 (by decide)
  have h15 : (A 15).length = 10 := hL 15 (by decide)
  have h16 : (A 16).length = 60 := hL 16 (by decide)
  have h80 : (A 80).length = 30 := hL 80 (by decide)
  have h81 : (A 81).length = 30 := hL 81 (by decide)
  have h82 : (A 82).length = 30 := hL 82 (by decide)
  have h83 : (A 83).length = 30 := hL 83 (by decide)
  have h84 : (A 84).length = 30 := hL 84 (by decide)
  have h85 : (A 85).length = 8 := hL 85 (by decide)
  have h101 : (A 101).length = 38 := hL 101 (by decide)
  have h102 : (A 102).length = 90 := hL 102 (by decide)
  have r2 := REFU_at hRE (k := 2) (by decide) (by decide) hc
  have r3 := REFU_at hRE (k := 3) (by decide) (by decide) hc
  have r4 := REFU_at hRE (k := 4) (by decide) (by decide) hc
  have r5 := REFU_at hRE (k := 5) (by decide) (by decide) hc
  have r6 := REFU_at hRE (k := 6) (by decide) (by decide) hc
  have r7 := REFU_at hRE (k := 7) (by decide) (by decide) hc
  have r8 := REFU_at hRE (k := 8) (by decide) (by decide) hc
  obtain ⟨t1, t2, t3, t4, t5, t6⟩ := hTH
  obtain ⟨p1, p2, p3, p4, p5, p6⟩ := hPE
  have hh := hLE.1.2.2.2 l
  have la1 := hLE.1.1
  have la2 := hLE.1.2.1
  refine R_s (P := True) (f' := (5, [some (vR 1), some (vI l), some (vI q)], [vI l, vR 79], LAY (shA A) (shF F), 0, 0)) hc84 3 rfl trivial ?_
  refine R_cv hc84 rfl rfl ?_ (fun r G h => h)
  refine R_s (P := True) (f' := (1, [some (vR 79), some (vI l)], [vI l], LAY (shA A) (shF F), 0, 0)) hc21 1 rfl trivial ?_
  refine R_if (t := 16) hc21 rfl rfl (fun (c1 : l < 0) => ?_) (fun (c1 : ¬ (l < 0)) => ?_)
  · refine R_s (P := True) (f' := (17, [some (vR 79), some (vI l)], [vI 0], LAY (shA A) (shF F), 0, 0)) hc21 1 rfl trivial ?_
    refine R_retz hc21 rfl rfl (Or.inl rfl) ?_
    refine R_s (f' := (8, [some (vR 1), some (vI l), some (vI q)], [vI 0], LAY (shA A) (shF F), 0, 0)) hc84 0 rfl trivial ?_
    refine R_if (t := 18) hc84 rfl rfl (fun (z : ¬ 0 = 0) => absurd z (by decide)) (fun (_ : ¬ (¬ 0 = 0)) => ?_)
    refine R_s (P := True) (f' := (14, [some (vR 1), some (vI l), some (vI q)], [vI (-3), vR 1], LAY (shA A) (shF F), 0, 0)) hc84 2 rfl trivial ?_
    refine R_cv hc84 rfl rfl ?_ (fun r G h => h)
    refine R_s (P := True) (f' := (3, [some (vR 1), some (vI (-3))], [vI (-2), vI (-3)], LAY (shA A) (shF F), 0, 0)) hc93 2 rfl trivial ?_
    refine R_ic (t := 23) hc93 rfl rfl (fun (z : (-2) < (-3)) => absurd z (by decide)) (fun (_ : ¬ ((-2) < (-3))) => ?_)
    refine R_s (P := True) (f' := (9, [some (vR 1), some (vI (-3))], [vI (-8), vI (-3)], LAY (shA A) (shF F), 0, 0)) hc93 2 rfl trivial ?_
    refine R_ic (t := 23) hc93 rfl rfl (fun (z : (-3) < (-8)) => absurd z (by decide)) (fun (_ : ¬ ((-3) < (-8))) => ?_)
    refine R_s (P := inI 3 ∧ (0 ≤ 3 ∧ 3 < ((A 87).length : Int)) ∧ inI ((rd (A 87) 3) + 1) ∧ (0 ≤ 3 ∧ 3 < ((A 87).length : Int)) ∧ True) (f' := (24, [some (vR 1), some (vI (-3))], [vI (-3)], LAY (u (shA A) 87 (wr (A 87) 3 ((rd (A 87) 3) + 1))) (shF F), 0, 0)) hc93 10 rfl ⟨⟨by omega, by omega⟩, ⟨by omega, by omega⟩, ⟨by omega, by omega⟩, ⟨by omega, by omega⟩, trivial⟩ ?_
    refine R_reti hc93 rfl rfl ?_
    refine R_s (f' := (17, [some (vR 1), some (vI l), some (vI q)], [vI (-3)], LAY (u (shA A) 87 (wr (A 87) 3 ((rd (A 87) 3) + 1))) (shF F), 0, 0)) hc84 0 rfl trivial ?_
    refine R_reti hc84 rfl rfl ⟨⟨_, rfl⟩, ⟨_, _, rfl, rfl⟩, ?_⟩
    refine R_s (P := inI ((F 16) - 1) ∧ True) (f' := (8, [some (vR 88), some (vI l), some (vI q)], [vI ((F 16) - 1), vI 0, vI l], LAY (u (shA A) 87 (wr (A 87) 3 ((rd (A 87) 3) + 1))) (shF F), 0, 0)) hc159 6 rfl ⟨⟨by omega, by omega⟩, trivial⟩ ?_
    refine R_cs hc159 rfl rfl ?_ (fun r G h => h)
    refine R_s (P := True) (f' := (2, [some (vI l), some (vI 0), some (vI ((F 16) - 1))], [vI 0, vI l], LAY (u (shA A) 87 (wr (A 87) 3 ((rd (A 87) 3) + 1))) (shF F), 0, 0)) hc104 2 rfl trivial ?_
    refine R_ic (t := 14) hc104 rfl rfl (fun (_ : l < 0) => ?_) (fun (z : ¬ (l < 0)) => absurd (show l < 0 by omega) z)
    refine R_s (P := True) (f' := (15, [some (vI l), some (vI 0), some (vI ((F 16) - 1))], [vI 0], LAY (u (shA A) 87 (wr (A 87) 3 ((rd (A 87) 3) + 1))) (shF F), 0, 0)) hc104 1 rfl trivial ?_
    refine R_retz hc104 rfl rfl (Or.inl rfl) ?_
    refine R_s (f' := (11, [some (vR 88), some (vI l), some (vI q)], [vI 0], LAY (u (shA A) 87 (wr (A 87) 3 ((rd (A 87) 3) + 1))) (shF F), 0, 0)) hc159 0 rfl trivial ?_
    refine R_if (t := 21) hc159 rfl rfl (fun (z : ¬ 0 = 0) => absurd z (by decide)) (fun (_ : ¬ (¬ 0 = 0)) => ?_)
    refine R_s (P := True) (f' := (17, [some (vR 88), some (vI l), some (vI q)], [vI (-3), vR 88], LAY (u (shA A) 87 (wr (A 87) 3 ((rd (A 87) 3) + 1))) (shF F), 0, 0)) hc159 2 rfl trivial ?_
    refine R_cv hc159 rfl rfl ?_ (fun r G h => h)
    refine R_s (P := inI 3 ∧ (0 ≤ 3 ∧ 3 < ((A 87).length : Int)) ∧ inI ((rd (A 87) 3) + 1) ∧ (0 ≤ 3 ∧ 3 < ((A 87).length : Int)) ∧ True) (f' := (12, [some (vR 88), some (vI (-3))], [vI (-3)], LAY (u (u (shA A) 87 (wr (A 87) 3 ((rd (A 87) 3) + 1))) 89 (wr (A 87) 3 ((rd (A 87) 3) + 1))) (shF F), 0, 0)) hc105 10 rfl ⟨⟨by omega, by omega⟩, ⟨by omega, by omega⟩, ⟨by omega, by omega⟩, ⟨by omega, by omega⟩, trivial⟩ ?_
    refine R_reti hc105 rfl rfl ?_
    refine R_s (f' := (20, [some (vR 88), some (vI l), some (vI q)], [vI (-3)], LAY (u (u (shA A) 87 (wr (A 87) 3 ((rd (A 87) 3) + 1))) 89 (wr (A 87) 3 ((rd (A 87) 3) + 1))) (shF F), 0, 0)) hc159 0 rfl trivial ?_
    refine R_reti hc159 rfl rfl ?_
    first
      | (exfalso; omega; done)
      | exact ⟨rfl, (u A 87 (wr (A 87) 3 ((rd (A 87) 3) + 1))), F, rfl, rfl, REL_ref hR0 (by decide) (by decide)⟩
  · refine R_s (P := True) (f' := (9, [some (vR 79), some (vI l)], [vI (F 16), vI l], LAY (shA A) (shF F), 0, 0)) hc21 3 rfl trivial ?_
    refine R_ic (t := 16) hc21 rfl rfl (fun (c2 : F 16 ≤ l) => ?_) (fun (c2 : ¬ (F 16 ≤ l)) => ?_)
    · refine R_s (P := True) (f' := (17, [some (vR 79), some (vI l)], [vI 0], LAY (shA A) (shF F), 0, 0)) hc21 1 rfl trivial ?_
      refine R_retz hc21 rfl rfl (Or.inl rfl) ?_
      refine R_s (f' := (8, [some (vR 1), some (vI l), some (vI q)], [vI 0], LAY (shA A) (shF F), 0, 0)) hc84 0 rfl trivial ?_
      refine R_if (t := 18) hc84 rfl rfl (fun (z : ¬ 0 = 0) => absurd z (by decide)) (fun (_ : ¬ (¬ 0 = 0)) => ?_)
      refine R_s (P := True) (f' := (14, [some (vR 1), some (vI l), some (vI q)], [vI (-3), vR 1], LAY (shA A) (shF F), 0, 0)) hc84 2 rfl trivial ?_
      refine R_cv hc84 rfl rfl ?_ (fun r G h => h)
      refine R_s (P := True) (f' := (3, [some (vR 1), some (vI (-3))], [vI (-2), vI (-3)], LAY (shA A) (shF F), 0, 0)) hc93 2 rfl trivial ?_
      refine R_ic (t := 23) hc93 rfl rfl (fun (z : (-2) < (-3)) => absurd z (by decide)) (fun (_ : ¬ ((-2) < (-3))) => ?_)
      refine R_s (P := True) (f' := (9, [some (vR 1), some (vI (-3))], [vI (-8), vI (-3)], LAY (shA A) (shF F), 0, 0)) hc93 2 rfl trivial ?_
      refine R_ic (t := 23) hc93 rfl rfl (fun (z : (-3) < (-8)) => absurd z (by decide)) (fun (_ : ¬ ((-3) < (-8))) => ?_)
      refine R_s (P := inI 3 ∧ (0 ≤ 3 ∧ 3 < ((A 87).length : Int)) ∧ inI ((rd (A 87) 3) + 1) ∧ (0 ≤ 3 ∧ 3 < ((A 87).length : Int)) ∧ True) (f' := (24, [some (vR 1), some (vI (-3))], [vI (-3)], LAY (u (shA A) 87 (wr (A 87) 3 ((rd (A 87) 3) + 1))) (shF F), 0, 0)) hc93 10 rfl ⟨⟨by omega, by omega⟩, ⟨by omega, by omega⟩, ⟨by omega, by omega⟩, ⟨by omega, by omega⟩, trivial⟩ ?_
      refine R_reti hc93 rfl rfl ?_
      refine R_s (f' := (17, [some (vR 1), some (vI l), some (vI q)], [vI (-3)], LAY (u (shA A) 87 (wr (A 87) 3 ((rd (A 87) 3) + 1))) (shF F), 0, 0)) hc84 0 rfl trivial ?_
      refine R_reti hc84 rfl rfl ⟨⟨_, rfl⟩, ⟨_, _, rfl, rfl⟩, ?_⟩
      refine R_s (P := inI ((F 16) - 1) ∧ True) (f' := (8, [some (vR 88), some (vI l), some (vI q)], [vI ((F 16) - 1), vI 0, vI l], LAY (u (shA A) 87 (wr (A 87) 3 ((rd (A 87) 3) + 1))) (shF F), 0, 0)) hc159 6 rfl ⟨⟨by omega, by omega⟩, trivial⟩ ?_
      refine R_cs hc159 rfl rfl ?_ (fun r G h => h)
      refine R_s (P := True) (f' := (2, [some (vI l), some (vI 0), some (vI ((F 16) - 1))], [vI 0, vI l], LAY (u (shA A) 87 (wr (A 87) 3 ((rd (A 87) 3) + 1))) (shF F), 0, 0)) hc104 2 rfl trivial ?_
      refine R_ic (t := 14) hc104 rfl rfl (fun (z : l < 0) => absurd z (by omega)) (fun (_ : ¬ (l < 0)) => ?_)
      refine R_s (P := True) (f' := (7, [some (vI l), some (vI 0), some (vI ((F 16) - 1))], [vI ((F 16) - 1), vI l], LAY (u (shA A) 87 (wr (A 87) 3 ((rd (A 87) 3) + 1))) (shF F), 0, 0)) hc104 2 rfl trivial ?_
      refine R_ic (t := 14) hc104 rfl rfl (fun (_ : (F 16) - 1 < l) => ?_) (fun (z : ¬ ((F 16) - 1 < l)) => absurd (show (F 16) - 1 < l by omega) z)
      refine R_s (P := True) (f' := (15, [some (vI l), some (vI 0), some (vI ((F 16) - 1))], [vI 0], LAY (u (shA A) 87 (wr (A 87) 3 ((rd (A 87) 3) + 1))) (shF F), 0, 0)) hc104 1 rfl trivial ?_
      refine R_retz hc104 rfl rfl (Or.inl rfl) ?_
      refine R_s (f' := (11, [some (vR 88), some (vI l), some (vI q)], [vI 0], LAY (u (shA A) 87 (wr (A 87) 3 ((rd (A 87) 3) + 1))) (shF F), 0, 0)) hc159 0 rfl trivial ?_
      refine R_if (t := 21) hc159 rfl rfl (fun (z : ¬ 0 = 0) => absurd z (by decide)) (fun (_ : ¬ (¬ 0 = 0)) => ?_)
      refine R_s (P := True) (f' := (17, [some (vR 88), some (vI l), some (vI q)], [vI (-3), vR 88], LAY (u (shA A) 87 (wr (A 87) 3 ((rd (A 87) 3) + 1))) (shF F), 0, 0)) hc159 2 rfl trivial ?_
      refine R_cv hc159 rfl rfl ?_ (fun r G h => h)
      refine R_s (P := inI 3 ∧ (0 ≤ 3 ∧ 3 < ((A 87).length : Int)) ∧ inI ((rd (A 87) 3) + 1) ∧ (0 ≤ 3 ∧ 3 < ((A 87).length : Int)) ∧ True) (f' := (12, [some (vR 88), some (vI (-3))], [vI (-3)], LAY (u (u (shA A) 87 (wr (A 87) 3 ((rd (A 87) 3) + 1))) 89 (wr (A 87) 3 ((rd (A 87) 3) + 1))) (shF F), 0, 0)) hc105 10 rfl ⟨⟨by omega, by omega⟩, ⟨by omega, by omega⟩, ⟨by omega, by omega⟩, ⟨by omega, by omega⟩, trivial⟩ ?_
      refine R_reti hc105 rfl rfl ?_
      refine R_s (f' := (20, [some (vR 88), some (vI l), some (vI q)], [vI (-3)], LAY (u (u (shA A) 87 (wr (A 87) 3 ((rd (A 87) 3) + 1))) 89 (wr (A 87) 3 ((rd (A 87) 3) + 1))) (shF F), 0, 0)) hc159 0 rfl trivial ?_
      refine R_reti hc159 rfl rfl ?_
      first
        | (exfalso; omega; done)
        | exact ⟨rfl, (u A 87 (wr (A 87) 3 ((rd (A 87) 3) + 1))), F, rfl, rfl, REL_ref hR0 (by decide) (by decide)⟩
    · refine R_s (P := True) (f' := (17, [some (vR 79), some (vI l)], [vI 1], LAY (shA A) (shF F), 0, 0)) hc21 2 rfl trivial ?_
      refine R_retz hc21 rfl rfl (Or.inr rfl) ?_
      refine R_s (f' := (8, [some (vR 1), some (vI l), some (vI q)], [vI 1], LAY (shA A) (shF F), 0, 0)) hc84 0 rfl trivial ?_
      refine R_if (t := 18) hc84 rfl rfl (fun (_ : ¬ 1 = 0) => ?_) (fun (z : ¬ (¬ 1 = 0)) => absurd (by decide) z)
      refine R_s (P := True) (f' := (19, [some (vR 1), some (vI l), some (vI q)], [vI q], LAY (shA A) (shF F), 0, 0)) hc84 1 rfl trivial ?_
      refine R_sw (t := 91) hc84 rfl (by decide) (fun isw o hio (c4 : q = 0 + isw) => ?_) rfl (fun (c4 : q < 0 ∨ 3 < q) => ?_)
      · match isw, hio, c4 with
        | 0, hio, c4 =>
          cases hio
          refine R_s (f' := (48, [some (vR 1), some (vI l), some (vI q)], [], LAY (shA A) (shF F), 0, 0)) hc84 0 rfl trivial ?_
          refine R_s (P := (0 ≤ l ∧ l < ((A 80).length : Int)) ∧ True) (f' := (57, [some (vR 1), some (vI l), some (vI q)], [vI (rd (A 80) l)], LAY (shA A) (shF F), 0, 0)) hc84 5 rfl ⟨⟨by omega, by omega⟩, trivial⟩ ?_
          refine R_reti hc84 rfl rfl ⟨⟨_, rfl⟩, ⟨_, _, rfl, rfl⟩, ?_⟩
          refine R_s (P := inI ((F 16) - 1) ∧ True) (f' := (8, [some (vR 88), some (vI l), some (vI q)], [vI ((F 16) - 1), vI 0, vI l], LAY (shA A) (shF F), 0, 0)) hc159 6 rfl ⟨⟨by omega, by omega⟩, trivial⟩ ?_
          refine R_cs hc159 rfl rfl ?_ (fun r G h => h)
          refine R_s (P := True) (f' := (2, [some (vI l), some (vI 0), some (vI ((F 16) - 1))], [vI 0, vI l], LAY (shA A) (shF F), 0, 0)) hc104 2 rfl trivial ?_
          refine R_ic (t := 14) hc104 rfl rfl (fun (z : l < 0) => absurd z (by omega)) (fun (_ : ¬ (l < 0)) => ?_)
          refine R_s (P := True) (f' := (7, [some (vI l), some (vI 0), some (vI ((F 16) - 1))], [vI ((F 16) - 1), vI l], LAY (shA A) (shF F), 0, 0)) hc104 2 rfl trivial ?_
          refine R_ic (t := 14) hc104 rfl rfl (fun (z : (F 16) - 1 < l) => absurd z (by omega)) (fun (_ : ¬ ((F 16) - 1 < l)) => ?_)
          refine R_s (P := True) (f' := (15, [some (vI l), some (vI 0), some (vI ((F 16) - 1))], [vI 1], LAY (shA A) (shF F), 0, 0)) hc104 2 rfl trivial ?_
          refine R_retz hc104 rfl rfl (Or.inr rfl) ?_
          refine R_s (f' := (11, [some (vR 88), some (vI l), some (vI q)], [vI 1], LAY (shA A) (shF F), 0, 0)) hc159 0 rfl trivial ?_
          refine R_if (t := 21) hc159 rfl rfl (fun (_ : ¬ 1 = 0) => ?_) (fun (z : ¬ (¬ 1 = 0)) => absurd (by decide) z)
          refine R_s (P := True) (f' := (24, [some (vR 88), some (vI l), some (vI q)], [vI 3, vI 0, vI q], LAY (shA A) (shF F), 0, 0)) hc159 3 rfl trivial ?_
          refine R_cs hc159 rfl rfl ?_ (fun r G h => h)
          refine R_s (P := True) (f' := (2, [some (vI q), some (vI 0), some (vI 3)], [vI 0, vI q], LAY (shA A) (shF F), 0, 0)) hc104 2 rfl trivial ?_
          refine R_ic (t := 14) hc104 rfl rfl (fun (z : q < 0) => absurd z (by omega)) (fun (_ : ¬ (q < 0)) => ?_)
          refine R_s (P := True) (f' := (7, [some (vI q), some (vI 0), some (vI 3)], [vI 3, vI q], LAY (shA A) (shF F), 0, 0)) hc104 2 rfl trivial ?_
          refine R_ic (t := 14) hc104 rfl rfl (fun (z : 3 < q) => absurd z (by omega)) (fun (_ : ¬ (3 < q)) => ?_)
          refine R_s (P := True) (f' := (15, [some (vI q), some (vI 0), some (vI 3)], [vI 1], LAY (shA A) (shF F), 0, 0)) hc104 2 rfl trivial ?_
          refine R_retz hc104 rfl rfl (Or.inr rfl) ?_
          refine R_s (f' := (27, [some (vR 88), some (vI l), some (vI q)], [vI 1], LAY (shA A) (shF F), 0, 0)) hc159 0 rfl trivial ?_
          refine R_if (t := 37) hc159 rfl rfl (fun (_ : ¬ 1 = 0) => ?_) (fun (z : ¬ (¬ 1 = 0)) => absurd (by decide) z)
          refine R_s (P := True) (f' := (39, [some (vR 88), some (vI l), some (vI q)], [vI 3, vI q], LAY (shA A) (shF F), 0, 0)) hc159 2 rfl trivial ?_
          refine R_ic (t := 59) hc159 rfl rfl (fun (_ : ¬ q = 3) => ?_) (fun (z : ¬ (¬ q = 3)) => absurd (show ¬ q = 3 by omega) z)
          refine R_s (P := inI (3 * l) ∧ inI ((3 * l) + q) ∧ (0 ≤ (3 * l) + q ∧ (3 * l) + q < ((A 102).length : Int)) ∧ True) (f' := (69, [some (vR 88), some (vI l), some (vI q)], [vI (rd (A 102) ((3 * l) + q))], LAY (shA A) (shF F), 0, 0)) hc159 8 rfl ⟨⟨by omega, by omega⟩, ⟨by omega, by omega⟩, ⟨by omega, by omega⟩, trivial⟩ ?_
          refine R_reti hc159 rfl rfl ?_
          first
            | (exfalso; omega; done)
            | exact ⟨(by rw [show rd (A 102) ((3 * l) + q) = rd (A 80) l by omega]), A, F, rfl, rfl, REL_c hR0⟩
            | (obtain ⟨z0, z1, z2, -⟩ := hLE.1.2.2.1 l (by omega) (by omega); have e9 : rd (A 102) (3 * l + q) = rd (A 80) l := (by rw [show 3 * l + q = 3 * l by omega]; exact z0); exact ⟨(by rw [show rd (A 102) ((3 * l) + q) = rd (A 80) l by omega]), A, F, rfl, rfl, REL_c hR0⟩)
        | 1, hio, c4 =>
          cases hio
          refine R_s (f' := (58, [some (vR 1), some (vI l), some (vI q)], [], LAY (shA A) (shF F), 0, 0)) hc84 0 rfl trivial ?_
          refine R_s (P := (0 ≤ l ∧ l < ((A 81).length : Int)) ∧ True) (f' := (67, [some (vR 1), some (vI l), some (vI q)], [vI (rd (A 81) l)], LAY (shA A) (shF F), 0, 0)) hc84 5 rfl ⟨⟨by omega, by omega⟩, trivial⟩ ?_
          refine R_reti hc84 rfl rfl ⟨⟨_, rfl⟩, ⟨_, _, rfl, rfl⟩, ?_⟩
          refine R_s (P := inI ((F 16) - 1) ∧ True) (f' := (8, [some (vR 88), some (vI l), some (vI q)], [vI ((F 16) - 1), vI 0, vI l], LAY (shA A) (shF F), 0, 0)) hc159 6 rfl ⟨⟨by omega, by omega⟩, trivial⟩ ?_
          refine R_cs hc159 rfl rfl ?_ (fun r G h => h)
          refine R_s (P := True) (f' := (2, [some (vI l), some (vI 0), some (vI ((F 16) - 1))], [vI 0, vI l], LAY (shA A) (shF F), 0, 0)) hc104 2 rfl trivial ?_
          refine R_ic (t := 14) hc104 rfl rfl (fun (z : l < 0) => absurd z (by omega)) (fun (_ : ¬ (l < 0)) => ?_)
          refine R_s (P := True) (f' := (7, [some (vI l), some (vI 0), some (vI ((F 16) - 1))], [vI ((F 16) - 1), vI l], LAY (shA A) (shF F), 0, 0)) hc104 2 rfl trivial ?_
          refine R_ic (t := 14) hc104 rfl rfl (fun (z : (F 16) - 1 < l) => absurd z (by omega)) (fun (_ : ¬ ((F 16) - 1 < l)) => ?_)
          refine R_s (P := True) (f' := (15, [some (vI l), some (vI 0), some (vI ((F 16) - 1))], [vI 1], LAY (shA A) (shF F), 0, 0)) hc104 2 rfl trivial ?_
          refine R_retz hc104 rfl rfl (Or.inr rfl) ?_
          refine R_s (f' := (11, [some (vR 88), some (vI l), some (vI q)], [vI 1], LAY (shA A) (shF F), 0, 0)) hc159 0 rfl trivial ?_
          refine R_if (t := 21) hc159 rfl rfl (fun (_ : ¬ 1 = 0) => ?_) (fun (z : ¬ (¬ 1 = 0)) => absurd (by decide) z)
          refine R_s (P := True) (f' := (24, [some (vR 88), some (vI l), some (vI q)], [vI 3, vI 0, vI q], LAY (shA A) (shF F), 0, 0)) hc159 3 rfl trivial ?_
          refine R_cs hc159 rfl rfl ?_ (fun r G h => h)
          refine R_s (P := True) (f' := (2, [some (vI q), some (vI 0), some (vI 3)], [vI 0, vI q], LAY (shA A) (shF F), 0, 0)) hc104 2 rfl trivial ?_
          refine R_ic (t := 14) hc104 rfl rfl (fun (z : q < 0) => absurd z (by omega)) (fun (_ : ¬ (q < 0)) => ?_)
          refine R_s (P := True) (f' := (7, [some (vI q), some (vI 0), some (vI 3)], [vI 3, vI q], LAY (shA A) (shF F), 0, 0)) hc104 2 rfl trivial ?_
          refine R_ic (t := 14) hc104 rfl rfl (fun (z : 3 < q) => absurd z (by omega)) (fun (_ : ¬ (3 < q)) => ?_)
          refine R_s (P := True) (f' := (15, [some (vI q), some (vI 0), some (vI 3)], [vI 1], LAY (shA A) (shF F), 0, 0)) hc104 2 rfl trivial ?_
          refine R_retz hc104 rfl rfl (Or.inr rfl) ?_
          refine R_s (f' := (27, [some (vR 88), some (vI l), some (vI q)], [vI 1], LAY (shA A) (shF F), 0, 0)) hc159 0 rfl trivial ?_
          refine R_if (t := 37) hc159 rfl rfl (fun (_ : ¬ 1 = 0) => ?_) (fun (z : ¬ (¬ 1 = 0)) => absurd (by decide) z)
          refine R_s (P := True) (f' := (39, [some (vR 88), some (vI l), some (vI q)], [vI 3, vI q], LAY (shA A) (shF F), 0, 0)) hc159 2 rfl trivial ?_
          refine R_ic (t := 59) hc159 rfl rfl (fun (_ : ¬ q = 3) => ?_) (fun (z : ¬ (¬ q = 3)) => absurd (show ¬ q = 3 by omega) z)
          refine R_s (P := inI (3 * l) ∧ inI ((3 * l) + q) ∧ (0 ≤ (3 * l) + q ∧ (3 * l) + q < ((A 102).length : Int)) ∧ True) (f' := (69, [some (vR 88), some (vI l), some (vI q)], [vI (rd (A 102) ((3 * l) + q))], LAY (shA A) (shF F), 0, 0)) hc159 8 rfl ⟨⟨by omega, by omega⟩, ⟨by omega, by omega⟩, ⟨by omega, by omega⟩, trivial⟩ ?_
          refine R_reti hc159 rfl rfl ?_
          first
            | (exfalso; omega; done)
            | exact ⟨(by rw [show rd (A 102) ((3 * l) + q) = rd (A 81) l by omega]), A, F, rfl, rfl, REL_c hR0⟩
            | (obtain ⟨z0, z1, z2, -⟩ := hLE.1.2.2.1 l (by omega) (by omega); have e9 : rd (A 102) (3 * l + q) = rd (A 81) l := (by rw [show 3 * l + q = 3 * l + 1 by omega]; exact z1); exact ⟨(by rw [show rd (A 102) ((3 * l) + q) = rd (A 81) l by omega]), A, F, rfl, rfl, REL_c hR0⟩)
        | 2, hio, c4 =>
          cases hio
          refine R_s (f' := (68, [some (vR 1), some (vI l), some (vI q)], [], LAY (shA A) (shF F), 0, 0)) hc84 0 rfl trivial ?_
          refine R_s (P := (0 ≤ l ∧ l < ((A 82).length : Int)) ∧ True) (f' := (77, [some (vR 1), some (vI l), some (vI q)], [vI (rd (A 82) l)], LAY (shA A) (shF F), 0, 0)) hc84 5 rfl ⟨⟨by omega, by omega⟩, trivial⟩ ?_
          refine R_reti hc84 rfl rfl ⟨⟨_, rfl⟩, ⟨_, _, rfl, rfl⟩, ?_⟩
          refine R_s (P := inI ((F 16) - 1) ∧ True) (f' := (8, [some (vR 88), some (vI l), some (vI q)], [vI ((F 16) - 1), vI 0, vI l], LAY (shA A) (shF F), 0, 0)) hc159 6 rfl ⟨⟨by omega, by omega⟩, trivial⟩ ?_
          refine R_cs hc159 rfl rfl ?_ (fun r G h => h)
          refine R_s (P := True) (f' := (2, [some (vI l), some (vI 0), some (vI ((F 16) - 1))], [vI 0, vI l], LAY (shA A) (shF F), 0, 0)) hc104 2 rfl trivial ?_
          refine R_ic (t := 14) hc104 rfl rfl (fun (z : l < 0) => absurd z (by omega)) (fun (_ : ¬ (l < 0)) => ?_)
          refine R_s (P := True) (f' := (7, [some (vI l), some (vI 0), some (vI ((F 16) - 1))], [vI ((F 16) - 1), vI l], LAY (shA A) (shF F), 0, 0)) hc104 2 rfl trivial ?_
          refine R_ic (t := 14) hc104 rfl rfl (fun (z : (F 16) - 1 < l) => absurd z (by omega)) (fun (_ : ¬ ((F 16) - 1 < l)) => ?_)
          refine R_s (P := True) (f' := (15, [some (vI l), some (vI 0), some (vI ((F 16) - 1))], [vI 1], LAY (shA A) (shF F), 0, 0)) hc104 2 rfl trivial ?_
          refine R_retz hc104 rfl rfl (Or.inr rfl) ?_
          refine R_s (f' := (11, [some (vR 88), some (vI l), some (vI q)], [vI 1], LAY (shA A) (shF F), 0, 0)) hc159 0 rfl trivial ?_
          refine R_if (t := 21) hc159 rfl rfl (fun (_ : ¬ 1 = 0) => ?_) (fun (z : ¬ (¬ 1 = 0)) => absurd (by decide) z)
          refine R_s (P := True) (f' := (24, [some (vR 88), some (vI l), some (vI q)], [vI 3, vI 0, vI q], LAY (shA A) (shF F), 0, 0)) hc159 3 rfl trivial ?_
          refine R_cs hc159 rfl rfl ?_ (fun r G h => h)
          refine R_s (P := True) (f' := (2, [some (vI q), some (vI 0), some (vI 3)], [vI 0, vI q], LAY (shA A) (shF F), 0, 0)) hc104 2 rfl trivial ?_
          refine R_ic (t := 14) hc104 rfl rfl (fun (z : q < 0) => absurd z (by omega)) (fun (_ : ¬ (q < 0)) => ?_)
          refine R_s (P := True) (f' := (7, [some (vI q), some (vI 0), some (vI 3)], [vI 3, vI q], LAY (shA A) (shF F), 0, 0)) hc104 2 rfl trivial ?_
          refine R_ic (t := 14) hc104 rfl rfl (fun (z : 3 < q) => absurd z (by omega)) (fun (_ : ¬ (3 < q)) => ?_)
          refine R_s (P := True) (f' := (15, [some (vI q), some (vI 0), some (vI 3)], [vI 1], LAY (shA A) (shF F), 0, 0)) hc104 2 rfl trivial ?_
          refine R_retz hc104 rfl rfl (Or.inr rfl) ?_
          refine R_s (f' := (27, [some (vR 88), some (vI l), some (vI q)], [vI 1], LAY (shA A) (shF F), 0, 0)) hc159 0 rfl trivial ?_
          refine R_if (t := 37) hc159 rfl rfl (fun (_ : ¬ 1 = 0) => ?_) (fun (z : ¬ (¬ 1 = 0)) => absurd (by decide) z)
          refine R_s (P := True) (f' := (39, [some (vR 88), some (vI l), some (vI q)], [vI 3, vI q], LAY (shA A) (shF F), 0, 0)) hc159 2 rfl trivial ?_
          refine R_ic (t := 59) hc159 rfl rfl (fun (_ : ¬ q = 3) => ?_) (fun (z : ¬ (¬ q = 3)) => absurd (show ¬ q = 3 by omega) z)
          refine R_s (P := inI (3 * l) ∧ inI ((3 * l) + q) ∧ (0 ≤ (3 * l) + q ∧ (3 * l) + q < ((A 102).length : Int)) ∧ True) (f' := (69, [some (vR 88), some (vI l), some (vI q)], [vI (rd (A 102) ((3 * l) + q))], LAY (shA A) (shF F), 0, 0)) hc159 8 rfl ⟨⟨by omega, by omega⟩, ⟨by omega, by omega⟩, ⟨by omega, by omega⟩, trivial⟩ ?_
          refine R_reti hc159 rfl rfl ?_
          first
            | (exfalso; omega; done)
            | exact ⟨(by rw [show rd (A 102) ((3 * l) + q) = rd (A 82) l by omega]), A, F, rfl, rfl, REL_c hR0⟩
            | (obtain ⟨z0, z1, z2, -⟩ := hLE.1.2.2.1 l (by omega) (by omega); have e9 : rd (A 102) (3 * l + q) = rd (A 82) l := (by rw [show 3 * l + q = 3 * l + 2 by omega]; exact z2); exact ⟨(by rw [show rd (A 102) ((3 * l) + q) = rd (A 82) l by omega]), A, F, rfl, rfl, REL_c hR0⟩)
        | 3, hio, c4 =>
          cases hio
          refine R_s (f' := (78, [some (vR 1), some (vI l), some (vI q)], [], LAY (shA A) (shF F), 0, 0)) hc84 0 rfl trivial ?_
          refine R_s (P := (0 ≤ l ∧ l < ((A 83).length : Int)) ∧ True) (f' := (87, [some (vR 1), some (vI l), some (vI q)], [vI (rd (A 83) l)], LAY (shA A) (shF F), 0, 0)) hc84 5 rfl ⟨⟨by omega, by omega⟩, trivial⟩ ?_
          refine R_cs hc84 rfl rfl ?_ (fun r G h => h)
          refine R_s (P := True) (f' := (1, [some (vI (rd (A 83) l))], [vI (rd (A 83) l)], LAY (shA A) (shF F), 0, 0)) hc95 1 rfl trivial ?_
          refine R_if (t := 8) hc95 rfl rfl (fun (c5 : rd (A 83) l = 0) => ?_) (fun (c5 : ¬ (rd (A 83) l = 0)) => ?_)
          · refine R_s (P := True) (f' := (9, [some (vI (rd (A 83) l))], [vI 0], LAY (shA A) (shF F), 0, 0)) hc95 1 rfl trivial ?_
            refine R_reti hc95 rfl rfl ?_
            refine R_s (f' := (90, [some (vR 1), some (vI l), some (vI q)], [vI 0], LAY (shA A) (shF F), 0, 0)) hc84 0 rfl trivial ?_
            refine R_reti hc84 rfl rfl ⟨⟨_, rfl⟩, ⟨_, _, rfl, rfl⟩, ?_⟩
            refine R_s (P := inI ((F 16) - 1) ∧ True) (f' := (8, [some (vR 88), some (vI l), some (vI q)], [vI ((F 16) - 1), vI 0, vI l], LAY (shA A) (shF F), 0, 0)) hc159 6 rfl ⟨⟨by omega, by omega⟩, trivial⟩ ?_
            refine R_cs hc159 rfl rfl ?_ (fun r G h => h)
            refine R_s (P := True) (f' := (2, [some (vI l), some (vI 0), some (vI ((F 16) - 1))], [vI 0, vI l], LAY (shA A) (shF F), 0, 0)) hc104 2 rfl trivial ?_
            refine R_ic (t := 14) hc104 rfl rfl (fun (z : l < 0) => absurd z (by omega)) (fun (_ : ¬ (l < 0)) => ?_)
            refine R_s (P := True) (f' := (7, [some (vI l), some (vI 0), some (vI ((F 16) - 1))], [vI ((F 16) - 1), vI l], LAY (shA A) (shF F), 0, 0)) hc104 2 rfl trivial ?_
            refine R_ic (t := 14) hc104 rfl rfl (fun (z : (F 16) - 1 < l) => absurd z (by omega)) (fun (_ : ¬ ((F 16) - 1 < l)) => ?_)
            refine R_s (P := True) (f' := (15, [some (vI l), some (vI 0), some (vI ((F 16) - 1))], [vI 1], LAY (shA A) (shF F), 0, 0)) hc104 2 rfl trivial ?_
            refine R_retz hc104 rfl rfl (Or.inr rfl) ?_
            refine R_s (f' := (11, [some (vR 88), some (vI l), some (vI q)], [vI 1], LAY (shA A) (shF F), 0, 0)) hc159 0 rfl trivial ?_
            refine R_if (t := 21) hc159 rfl rfl (fun (_ : ¬ 1 = 0) => ?_) (fun (z : ¬ (¬ 1 = 0)) => absurd (by decide) z)
            refine R_s (P := True) (f' := (24, [some (vR 88), some (vI l), some (vI q)], [vI 3, vI 0, vI q], LAY (shA A) (shF F), 0, 0)) hc159 3 rfl trivial ?_
            refine R_cs hc159 rfl rfl ?_ (fun r G h => h)
            refine R_s (P := True) (f' := (2, [some (vI q), some (vI 0), some (vI 3)], [vI 0, vI q], LAY (shA A) (shF F), 0, 0)) hc104 2 rfl trivial ?_
            refine R_ic (t := 14) hc104 rfl rfl (fun (z : q < 0) => absurd z (by omega)) (fun (_ : ¬ (q < 0)) => ?_)
            refine R_s (P := True) (f' := (7, [some (vI q), some (vI 0), some (vI 3)], [vI 3, vI q], LAY (shA A) (shF F), 0, 0)) hc104 2 rfl trivial ?_
            refine R_ic (t := 14) hc104 rfl rfl (fun (z : 3 < q) => absurd z (by omega)) (fun (_ : ¬ (3 < q)) => ?_)
            refine R_s (P := True) (f' := (15, [some (vI q), some (vI 0), some (vI 3)], [vI 1], LAY (shA A) (shF F), 0, 0)) hc104 2 rfl trivial ?_
            refine R_retz hc104 rfl rfl (Or.inr rfl) ?_
            refine R_s (f' := (27, [some (vR 88), some (vI l), some (vI q)], [vI 1], LAY (shA A) (shF F), 0, 0)) hc159 0 rfl trivial ?_
            refine R_if (t := 37) hc159 rfl rfl (fun (_ : ¬ 1 = 0) => ?_) (fun (z : ¬ (¬ 1 = 0)) => absurd (by decide) z)
            refine R_s (P := True) (f' := (39, [some (vR 88), some (vI l), some (vI q)], [vI 3, vI q], LAY (shA A) (shF F), 0, 0)) hc159 2 rfl trivial ?_
            refine R_ic (t := 59) hc159 rfl rfl (fun (z : ¬ q = 3) => absurd z (by omega)) (fun (_ : ¬ (¬ q = 3)) => ?_)
            refine R_s (P := (0 ≤ l ∧ l < ((A 83).length : Int)) ∧ True) (f' := (48, [some (vR 88), some (vI l), some (vI q)], [vI (rd (A 83) l)], LAY (shA A) (shF F), 0, 0)) hc159 4 rfl ⟨⟨by omega, by omega⟩, trivial⟩ ?_
            refine R_if (t := 55) hc159 rfl rfl (fun (_ : rd (A 83) l = 0) => ?_) (fun (z : ¬ (rd (A 83) l = 0)) => absurd (show rd (A 83) l = 0 by omega) z)
            refine R_s (P := True) (f' := (69, [some (vR 88), some (vI l), some (vI q)], [vI 0], LAY (shA A) (shF F), 0, 0)) hc159 2 rfl trivial ?_
            refine R_reti hc159 rfl rfl ?_
            first
              | (exfalso; omega; done)
              | exact ⟨rfl, A, F, rfl, rfl, REL_c hR0⟩
          · refine R_s (P := True) (f' := (9, [some (vI (rd (A 83) l))], [vI 1], LAY (shA A) (shF F), 0, 0)) hc95 2 rfl trivial ?_
            refine R_reti hc95 rfl rfl ?_
            refine R_s (f' := (90, [some (vR 1), some (vI l), some (vI q)], [vI 1], LAY (shA A) (shF F), 0, 0)) hc84 0 rfl trivial ?_
            refine R_reti hc84 rfl rfl ⟨⟨_, rfl⟩, ⟨_, _, rfl, rfl⟩, ?_⟩
            refine R_s (P := inI ((F 16) - 1) ∧ True) (f' := (8, [some (vR 88), some (vI l), some (vI q)], [vI ((F 16) - 1), vI 0, vI l], LAY (shA A) (shF F), 0, 0)) hc159 6 rfl ⟨⟨by omega, by omega⟩, trivial⟩ ?_
            refine R_cs hc159 rfl rfl ?_ (fun r G h => h)
            refine R_s (P := True) (f' := (2, [some (vI l), some (vI 0), some (vI ((F 16) - 1))], [vI 0, vI l], LAY (shA A) (shF F), 0, 0)) hc104 2 rfl trivial ?_
            refine R_ic (t := 14) hc104 rfl rfl (fun (z : l < 0) => absurd z (by omega)) (fun (_ : ¬ (l < 0)) => ?_)
            refine R_s (P := True) (f' := (7, [some (vI l), some (vI 0), some (vI ((F 16) - 1))], [vI ((F 16) - 1), vI l], LAY (shA A) (shF F), 0, 0)) hc104 2 rfl trivial ?_
            refine R_ic (t := 14) hc104 rfl rfl (fun (z : (F 16) - 1 < l) => absurd z (by omega)) (fun (_ : ¬ ((F 16) - 1 < l)) => ?_)
            refine R_s (P := True) (f' := (15, [some (vI l), some (vI 0), some (vI ((F 16) - 1))], [vI 1], LAY (shA A) (shF F), 0, 0)) hc104 2 rfl trivial ?_
            refine R_retz hc104 rfl rfl (Or.inr rfl) ?_
            refine R_s (f' := (11, [some (vR 88), some (vI l), some (vI q)], [vI 1], LAY (shA A) (shF F), 0, 0)) hc159 0 rfl trivial ?_
            refine R_if (t := 21) hc159 rfl rfl (fun (_ : ¬ 1 = 0) => ?_) (fun (z : ¬ (¬ 1 = 0)) => absurd (by decide) z)
            refine R_s (P := True) (f' := (24, [some (vR 88), some (vI l), some (vI q)], [vI 3, vI 0, vI q], LAY (shA A) (shF F), 0, 0)) hc159 3 rfl trivial ?_
            refine R_cs hc159 rfl rfl ?_ (fun r G h => h)
            refine R_s (P := True) (f' := (2, [some (vI q), some (vI 0), some (vI 3)], [vI 0, vI q], LAY (shA A) (shF F), 0, 0)) hc104 2 rfl trivial ?_
            refine R_ic (t := 14) hc104 rfl rfl (fun (z : q < 0) => absurd z (by omega)) (fun (_ : ¬ (q < 0)) => ?_)
            refine R_s (P := True) (f' := (7, [some (vI q), some (vI 0), some (vI 3)], [vI 3, vI q], LAY (shA A) (shF F), 0, 0)) hc104 2 rfl trivial ?_
            refine R_ic (t := 14) hc104 rfl rfl (fun (z : 3 < q) => absurd z (by omega)) (fun (_ : ¬ (3 < q)) => ?_)
            refine R_s (P := True) (f' := (15, [some (vI q), some (vI 0), some (vI 3)], [vI 1], LAY (shA A) (shF F), 0, 0)) hc104 2 rfl trivial ?_
            refine R_retz hc104 rfl rfl (Or.inr rfl) ?_
            refine R_s (f' := (27, [some (vR 88), some (vI l), some (vI q)], [vI 1], LAY (shA A) (shF F), 0, 0)) hc159 0 rfl trivial ?_
            refine R_if (t := 37) hc159 rfl rfl (fun (_ : ¬ 1 = 0) => ?_) (fun (z : ¬ (¬ 1 = 0)) => absurd (by decide) z)
            refine R_s (P := True) (f' := (39, [some (vR 88), some (vI l), some (vI q)], [vI 3, vI q], LAY (shA A) (shF F), 0, 0)) hc159 2 rfl trivial ?_
            refine R_ic (t := 59) hc159 rfl rfl (fun (z : ¬ q = 3) => absurd z (by omega)) (fun (_ : ¬ (¬ q = 3)) => ?_)
            refine R_s (P := (0 ≤ l ∧ l < ((A 83).length : Int)) ∧ True) (f' := (48, [some (vR 88), some (vI l), some (vI q)], [vI (rd (A 83) l)], LAY (shA A) (shF F), 0, 0)) hc159 4 rfl ⟨⟨by omega, by omega⟩, trivial⟩ ?_
            refine R_if (t := 55) hc159 rfl rfl (fun (z : rd (A 83) l = 0) => absurd z (by omega)) (fun (_ : ¬ (rd (A 83) l = 0)) => ?_)
            refine R_s (P := True) (f' := (69, [some (vR 88), some (vI l), some (vI q)], [vI 1], LAY (shA A) (shF F), 0, 0)) hc159 2 rfl trivial ?_
            refine R_reti hc159 rfl rfl ?_
            first
              | (exfalso; omega; done)
              | exact ⟨rfl, A, F, rfl, rfl, REL_c hR0⟩
        | isw + 4, hio, c4 => exact absurd hio (by simp)
      · refine R_s (P := True) (f' := (94, [some (vR 1), some (vI l), some (vI q)], [vI (-7), vR 1], LAY (shA A) (shF F), 0, 0)) hc84 2 rfl trivial ?_
        refine R_cv hc84 rfl rfl ?_ (fun r G h => h)
        refine R_s (P := True) (f' := (3, [some (vR 1), some (vI (-7))], [vI (-2), vI (-7)], LAY (shA A) (shF F), 0, 0)) hc93 2 rfl trivial ?_
        refine R_ic (t := 23) hc93 rfl rfl (fun (z : (-2) < (-7)) => absurd z (by decide)) (fun (_ : ¬ ((-2) < (-7))) => ?_)
        refine R_s (P := True) (f' := (9, [some (vR 1), some (vI (-7))], [vI (-8), vI (-7)], LAY (shA A) (shF F), 0, 0)) hc93 2 rfl trivial ?_
        refine R_ic (t := 23) hc93 rfl rfl (fun (z : (-7) < (-8)) => absurd z (by decide)) (fun (_ : ¬ ((-7) < (-8))) => ?_)
        refine R_s (P := inI 7 ∧ (0 ≤ 7 ∧ 7 < ((A 87).length : Int)) ∧ inI ((rd (A 87) 7) + 1) ∧ (0 ≤ 7 ∧ 7 < ((A 87).length : Int)) ∧ True) (f' := (24, [some (vR 1), some (vI (-7))], [vI (-7)], LAY (u (shA A) 87 (wr (A 87) 7 ((rd (A 87) 7) + 1))) (shF F), 0, 0)) hc93 10 rfl ⟨⟨by omega, by omega⟩, ⟨by omega, by omega⟩, ⟨by omega, by omega⟩, ⟨by omega, by omega⟩, trivial⟩ ?_
        refine R_reti hc93 rfl rfl ?_
        refine R_s (f' := (97, [some (vR 1), some (vI l), some (vI q)], [vI (-7)], LAY (u (shA A) 87 (wr (A 87) 7 ((rd (A 87) 7) + 1))) (shF F), 0, 0)) hc84 0 rfl trivial ?_
        refine R_reti hc84 rfl rfl ⟨⟨_, rfl⟩, ⟨_, _, rfl, rfl⟩, ?_⟩
        refine R_s (P := inI ((F 16) - 1) ∧ True) (f' := (8, [some (vR 88), some (vI l), some (vI q)], [vI ((F 16) - 1), vI 0, vI l], LAY (u (shA A) 87 (wr (A 87) 7 ((rd (A 87) 7) + 1))) (shF F), 0, 0)) hc159 6 rfl ⟨⟨by omega, by omega⟩, trivial⟩ ?_
        refine R_cs hc159 rfl rfl ?_ (fun r G h => h)
        refine R_s (P := True) (f' := (2, [some (vI l), some (vI 0), some (vI ((F 16) - 1))], [vI 0, vI l], LAY (u (shA A) 87 (wr (A 87) 7 ((rd (A 87) 7) + 1))) (shF F), 0, 0)) hc104 2 rfl trivial ?_
        refine R_ic (t := 14) hc104 rfl rfl (fun (z : l < 0) => absurd z (by omega)) (fun (_ : ¬ (l < 0)) => ?_)
        refine R_s (P := True) (f' := (7, [some (vI l), some (vI 0), some (vI ((F 16) - 1))], [vI ((F 16) - 1), vI l], LAY (u (shA A) 87 (wr (A 87) 7 ((rd (A 87) 7) + 1))) (shF F), 0, 0)) hc104 2 rfl trivial ?_
        refine R_ic (t := 14) hc104 rfl rfl (fun (z : (F 16) - 1 < l) => absurd z (by omega)) (fun (_ : ¬ ((F 16) - 1 < l)) => ?_)
        refine R_s (P := True) (f' := (15, [some (vI l), some (vI 0), some (vI ((F 16) - 1))], [vI 1], LAY (u (shA A) 87 (wr (A 87) 7 ((rd (A 87) 7) + 1))) (shF F), 0, 0)) hc104 2 rfl trivial ?_
        refine R_retz hc104 rfl rfl (Or.inr rfl) ?_
        refine R_s (f' := (11, [some (vR 88), some (vI l), some (vI q)], [vI 1], LAY (u (shA A) 87 (wr (A 87) 7 ((rd (A 87) 7) + 1))) (shF F), 0, 0)) hc159 0 rfl trivial ?_
        refine R_if (t := 21) hc159 rfl rfl (fun (_ : ¬ 1 = 0) => ?_) (fun (z : ¬ (¬ 1 = 0)) => absurd (by decide) z)
        refine R_s (P := True) (f' := (24, [some (vR 88), some (vI l), some (vI q)], [vI 3, vI 0, vI q], LAY (u (shA A) 87 (wr (A 87) 7 ((rd (A 87) 7) + 1))) (shF F), 0, 0)) hc159 3 rfl trivial ?_
        refine R_cs hc159 rfl rfl ?_ (fun r G h => h)
        refine R_s (P := True) (f' := (2, [some (vI q), some (vI 0), some (vI 3)], [vI 0, vI q], LAY (u (shA A) 87 (wr (A 87) 7 ((rd (A 87) 7) + 1))) (shF F), 0, 0)) hc104 2 rfl trivial ?_
        refine R_ic (t := 14) hc104 rfl rfl (fun (c111 : q < 0) => ?_) (fun (c111 : ¬ (q < 0)) => ?_)
        · refine R_s (P := True) (f' := (15, [some (vI q), some (vI 0), some (vI 3)], [vI 0], LAY (u (shA A) 87 (wr (A 87) 7 ((rd (A 87) 7) + 1))) (shF F), 0, 0)) hc104 1 rfl trivial ?_
          refine R_retz hc104 rfl rfl (Or.inl rfl) ?_
          refine R_s (f' := (27, [some (vR 88), some (vI l), some (vI q)], [vI 0], LAY (u (shA A) 87 (wr (A 87) 7 ((rd (A 87) 7) + 1))) (shF F), 0, 0)) hc159 0 rfl trivial ?_
          refine R_if (t := 37) hc159 rfl rfl (fun (z : ¬ 0 = 0) => absurd z (by decide)) (fun (_ : ¬ (¬ 0 = 0)) => ?_)
          refine R_s (P := True) (f' := (33, [some (vR 88), some (vI l), some (vI q)], [vI (-7), vR 88], LAY (u (shA A) 87 (wr (A 87) 7 ((rd (A 87) 7) + 1))) (shF F), 0, 0)) hc159 2 rfl trivial ?_
          refine R_cv hc159 rfl rfl ?_ (fun r G h => h)
          refine R_s (P := inI 7 ∧ (0 ≤ 7 ∧ 7 < ((A 87).length : Int)) ∧ inI ((rd (A 87) 7) + 1) ∧ (0 ≤ 7 ∧ 7 < ((A 87).length : Int)) ∧ True) (f' := (12, [some (vR 88), some (vI (-7))], [vI (-7)], LAY (u (u (shA A) 87 (wr (A 87) 7 ((rd (A 87) 7) + 1))) 89 (wr (A 87) 7 ((rd (A 87) 7) + 1))) (shF F), 0, 0)) hc105 10 rfl ⟨⟨by omega, by omega⟩, ⟨by omega, by omega⟩, ⟨by omega, by omega⟩, ⟨by omega, by omega⟩, trivial⟩ ?_
          refine R_reti hc105 rfl rfl ?_
          refine R_s (f' := (36, [some (vR 88), some (vI l), some (vI q)], [vI (-7)], LAY (u (u (shA A) 87 (wr (A 87) 7 ((rd (A 87) 7) + 1))) 89 (wr (A 87) 7 ((rd (A 87) 7) + 1))) (shF F), 0, 0)) hc159 0 rfl trivial ?_
          refine R_reti hc159 rfl rfl ?_
          first
            | (exfalso; omega; done)
            | exact ⟨rfl, (u A 87 (wr (A 87) 7 ((rd (A 87) 7) + 1))), F, rfl, rfl, REL_ref hR0 (by decide) (by decide)⟩
        · refine R_s (P := True) (f' := (7, [some (vI q), some (vI 0), some (vI 3)], [vI 3, vI q], LAY (u (shA A) 87 (wr (A 87) 7 ((rd (A 87) 7) + 1))) (shF F), 0, 0)) hc104 2 rfl trivial ?_
          refine R_ic (t := 14) hc104 rfl rfl (fun (c112 : 3 < q) => ?_) (fun (c112 : ¬ (3 < q)) => ?_)
          · refine R_s (P := True) (f' := (15, [some (vI q), some (vI 0), some (vI 3)], [vI 0], LAY (u (shA A) 87 (wr (A 87) 7 ((rd (A 87) 7) + 1))) (shF F), 0, 0)) hc104 1 rfl trivial ?_
            refine R_retz hc104 rfl rfl (Or.inl rfl) ?_
            refine R_s (f' := (27, [some (vR 88), some (vI l), some (vI q)], [vI 0], LAY (u (shA A) 87 (wr (A 87) 7 ((rd (A 87) 7) + 1))) (shF F), 0, 0)) hc159 0 rfl trivial ?_
            refine R_if (t := 37) hc159 rfl rfl (fun (z : ¬ 0 = 0) => absurd z (by decide)) (fun (_ : ¬ (¬ 0 = 0)) => ?_)
            refine R_s (P := True) (f' := (33, [some (vR 88), some (vI l), some (vI q)], [vI (-7), vR 88], LAY (u (shA A) 87 (wr (A 87) 7 ((rd (A 87) 7) + 1))) (shF F), 0, 0)) hc159 2 rfl trivial ?_
            refine R_cv hc159 rfl rfl ?_ (fun r G h => h)
            refine R_s (P := inI 7 ∧ (0 ≤ 7 ∧ 7 < ((A 87).length : Int)) ∧ inI ((rd (A 87) 7) + 1) ∧ (0 ≤ 7 ∧ 7 < ((A 87).length : Int)) ∧ True) (f' := (12, [some (vR 88), some (vI (-7))], [vI (-7)], LAY (u (u (shA A) 87 (wr (A 87) 7 ((rd (A 87) 7) + 1))) 89 (wr (A 87) 7 ((rd (A 87) 7) + 1))) (shF F), 0, 0)) hc105 10 rfl ⟨⟨by omega, by omega⟩, ⟨by omega, by omega⟩, ⟨by omega, by omega⟩, ⟨by omega, by omega⟩, trivial⟩ ?_
            refine R_reti hc105 rfl rfl ?_
            refine R_s (f' := (36, [some (vR 88), some (vI l), some (vI q)], [vI (-7)], LAY (u (u (shA A) 87 (wr (A 87) 7 ((rd (A 87) 7) + 1))) 89 (wr (A 87) 7 ((rd (A 87) 7) + 1))) (shF F), 0, 0)) hc159 0 rfl trivial ?_
            refine R_reti hc159 rfl rfl ?_
            first
              | (exfalso; omega; done)
              | exact ⟨rfl, (u A 87 (wr (A 87) 7 ((rd (A 87) 7) + 1))), F, rfl, rfl, REL_ref hR0 (by decide) (by decide)⟩
          · refine R_s (P := True) (f' := (15, [some (vI q), some (vI 0), some (vI 3)], [vI 1], LAY (u (shA A) 87 (wr (A 87) 7 ((rd (A 87) 7) + 1))) (shF F), 0, 0)) hc104 2 rfl trivial ?_
            refine R_retz hc104 rfl rfl (Or.inr rfl) ?_
            refine R_s (f' := (27, [some (vR 88), some (vI l), some (vI q)], [vI 1], LAY (u (shA A) 87 (wr (A 87) 7 ((rd (A 87) 7) + 1))) (shF F), 0, 0)) hc159 0 rfl trivial ?_
            refine R_if (t := 37) hc159 rfl rfl (fun (_ : ¬ 1 = 0) => ?_) (fun (z : ¬ (¬ 1 = 0)) => absurd (by decide) z)
            refine R_s (P := True) (f' := (39, [some (vR 88), some (vI l), some (vI q)], [vI 3, vI q], LAY (u (shA A) 87 (wr (A 87) 7 ((rd (A 87) 7) + 1))) (shF F), 0, 0)) hc159 2 rfl trivial ?_
            refine R_ic (t := 59) hc159 rfl rfl (fun (c114 : ¬ q = 3) => ?_) (fun (c114 : ¬ (¬ q = 3)) => ?_)
            · refine R_s (P := inI (3 * l) ∧ inI ((3 * l) + q) ∧ (0 ≤ (3 * l) + q ∧ (3 * l) + q < ((A 102).length : Int)) ∧ True) (f' := (69, [some (vR 88), some (vI l), some (vI q)], [vI (rd (A 102) ((3 * l) + q))], LAY (u (shA A) 87 (wr (A 87) 7 ((rd (A 87) 7) + 1))) (shF F), 0, 0)) hc159 8 rfl ⟨⟨by omega, by omega⟩, ⟨by omega, by omega⟩, ⟨by omega, by omega⟩, trivial⟩ ?_
              refine R_reti hc159 rfl rfl ?_
              first
                | (exfalso; omega; done)
                | exact ⟨(by rw [show rd (A 102) ((3 * l) + q) = (-7) by omega]), (u A 87 (wr (A 87) 7 ((rd (A 87) 7) + 1))), F, rfl, rfl, REL_ref hR0 (by decide) (by decide)⟩
            · refine R_s (P := (0 ≤ l ∧ l < ((A 83).length : Int)) ∧ True) (f' := (48, [some (vR 88), some (vI l), some (vI q)], [vI (rd (A 83) l)], LAY (u (shA A) 87 (wr (A 87) 7 ((rd (A 87) 7) + 1))) (shF F), 0, 0)) hc159 4 rfl ⟨⟨by omega, by omega⟩, trivial⟩ ?_
              refine R_if (t := 55) hc159 rfl rfl (fun (c115 : rd (A 83) l = 0) => ?_) (fun (c115 : ¬ (rd (A 83) l = 0)) => ?_)
              · refine R_s (P := True) (f' := (69, [some (vR 88), some (vI l), some (vI q)], [vI 0], LAY (u (shA A) 87 (wr (A 87) 7 ((rd (A 87) 7) + 1))) (shF F), 0, 0)) hc159 2 rfl trivial ?_
                refine R_reti hc159 rfl rfl ?_
                first
                  | (exfalso; omega; done)
                  | exact ⟨(by rw [show 0 = (-7) by omega]), (u A 87 (wr (A 87) 7 ((rd (A 87) 7) + 1))), F, rfl, rfl, REL_ref hR0 (by decide) (by decide)⟩
              · refine R_s (P := True) (f' := (69, [some (vR 88), some (vI l), some (vI q)], [vI 1], LAY (u (shA A) 87 (wr (A 87) 7 ((rd (A 87) 7) + 1))) (shF F), 0, 0)) hc159 2 rfl trivial ?_
                refine R_reti hc159 rfl rfl ?_
                first
                  | (exfalso; omega; done)
                  | exact ⟨(by rw [show 1 = (-7) by omega]), (u A 87 (wr (A 87) 7 ((rd (A 87) 7) + 1))), F, rfl, rfl, REL_ref hR0 (by decide) (by decide)⟩

theorem op_parts {c : Int} {A : Nat → List Int} {F : Nat → Int} (hR : REL c A F) (hc : c < 512) (t d : Int) (i_t : inI t) (i_d : inI d) : R 69 (0, L0 69 [vR 1, vI t, vI d], [], LAY (shA A) (shF F), 0, 0) (fun r G => (∃ x, r = some (vI x)) ∧ (∃ (A1 : Nat → List Int) (F1 : Nat → Int), G = LAY A1 F1 ∧ A1 0 = A 0) ∧ R 124 (0, L0 124 [vR 88, vI t, vI d], [], G, 0, 0) (fun r2 G2 => r2 = r ∧ ∃ (A' : Nat → List Int) (F' : Nat → Int), G2 = LAY (shA A') (shF F') ∧ A' 0 = A 0 ∧ REL (c + 1) A' F')) := by
  have hR0 := hR
  obtain ⟨hL, hPE, hTH, hTP, hDE, hLE, hNO, hAC, hRO, hRE⟩ := hR
  have j_t := i_t
  unfold inI at j_t
  have j_d := i_d
  unfold inI at j_d
  have h87 : (A 87).length = 9 := hL 87 (by decide)
  have h3 : (A 3).length = 30 := hL 3 (by decide)
  have h4 : (A 4).length = 30 := hL 4 (by decide)
  have h5 : (A 5).length = 30 := hL 5 (by decide)
  have h6 : (A 6).length = 30 := hL 6 (by decide)
  have h7 : (A 7).length = 30 := hL 7 (by decide)
  have h94 : (A 94).length = 30 := hL 94 (by decide)
  have h13 : (A 13).length = 10 := hL 13 (by decide)
  have h14 : (A 14).length = 10 := hL 14 (by decide)
  have h15 : (A 15).length = 10 := hL 15 (by decide)
  have h16 : (A 16).length = 60 := hL 16 (by decide)
  have h80 : (A 80).length = 30 := hL 80 (by decide)
  have h81 : (A 81).length = 30 := hL 81 (by decide)
  have h82 : (A 82).length = 30 := hL 82 (by decide)
  have h83 : (A 83).length = 30 := hL 83 (by decide)
  have h84 : (A 84).length = 30 := hL 84 (by decide)
  have h85 : (A 85).length = 8 := hL 85 (by decide)
  have h101 : (A 101).length = 38 := hL 101 (by decide)
  have h102 : (A 102).length = 90 := hL 102 (by decide)
  have r2 := REFU_at hRE (k := 2) (by decide) (by decide) hc
  have r3 := REFU_at hRE (k := 3) (by decide) (by decide) hc
  have r4 := REFU_at hRE (k := 4) (by decide) (by decide) hc
  have r5 := REFU_at hRE (k := 5) (by decide) (by decide) hc
  have r6 := REFU_at hRE (k := 6) (by decide) (by decide) hc
  have r7 := REFU_at hRE (k := 7) (by decide) (by decide) hc
  have r8 := REFU_at hRE (k := 8) (by decide) (by decide) hc
  obtain ⟨t1, t2, t3, t4, t5, t6⟩ := hTH
  obtain ⟨p1, p2, p3, p4, p5, p6⟩ := hPE
  have g0 := t5 (t * 6 + 0)
  have m0 : rd (A 16) (6 * t + 0) = rd (A 16) (t * 6 + 0) := by rw [show 6 * t + 0 = t * 6 + 0 by omega]
  have g1 := t5 (t * 6 + 1)
  have m1 : rd (A 16) (6 * t + 1) = rd (A 16) (t * 6 + 1) := by rw [show 6 * t + 1 = t * 6 + 1 by omega]
  have g2 := t5 (t * 6 + 2)
  have m2 : rd (A 16) (6 * t + 2) = rd (A 16) (t * 6 + 2) := by rw [show 6 * t + 2 = t * 6 + 2 by omega]
  have g3 := t5 (t * 6 + 3)
  have m3 : rd (A 16) (6 * t + 3) = rd (A 16) (t * 6 + 3) := by rw [show 6 * t + 3 = t * 6 + 3 by omega]
  have g4 := t5 (t * 6 + 4)
  have m4 : rd (A 16) (6 * t + 4) = rd (A 16) (t * 6 + 4) := by rw [show 6 * t + 4 = t * 6 + 4 by omega]
  have g5 := t5 (t * 6 + 5)
  have m5 : rd (A 16) (6 * t + 5) = rd (A 16) (t * 6 + 5) := by rw [show 6 * t + 5 = t * 6 + 5 by omega]
  have s6 := t6 t
  have g60 : rd (A 16) (t * 6) = rd (A 16) (t * 6 + 0) := by rw [show t * 6 + 0 = t * 6 by omega]
  unfold sum6 at s6
  have gd := t5 (t * 6 + d)
  have md : rd (A 16) (6 * t + d) = rd (A 16) (t * 6 + d) := by rw [show 6 * t + d = t * 6 + d by omega]
  refine R_s (P := True) (f' := (5, [some (vR 1), some (vI t), some (vI d)], [vI t, vR 12], LAY (shA A) (shF F), 0, 0)) hc69 3 rfl trivial ?_
  refine R_cv hc69 rfl rfl ?_ (fun r G h => h)
  refine R_s (P := True) (f' := (1, [some (vR 12), some (vI t)], [vI t], LAY (shA A) (shF F), 0, 0)) hc52 1 rfl trivial ?_
  refine R_if (t := 16) hc52 rfl rfl (fun (c1 : t < 0) => ?_) (fun (c1 : ¬ (t < 0)) => ?_)
  · refine R_s (P := True) (f' := (17, [some (vR 12), some (vI t)], [vI 0], LAY (shA A) (shF F), 0, 0)) hc52 1 rfl trivial ?_
    refine R_retz hc52 rfl rfl (Or.inl rfl) ?_
    refine R_s (f' := (8, [some (vR 1), some (vI t), some (vI d)], [vI 0], LAY (shA A) (shF F), 0, 0)) hc69 0 rfl trivial ?_
    refine R_if (t := 24) hc69 rfl rfl (fun (_ : 0 = 0) => ?_) (fun (z : ¬ (0 = 0)) => absurd (by decide) z)
    refine R_s (P := True) (f' := (27, [some (vR 1), some (vI t), some (vI d)], [vI (-3), vR 1], LAY (shA A) (shF F), 0, 0)) hc69 2 rfl trivial ?_
    refine R_cv hc69 rfl rfl ?_ (fun r G h => h)
    refine R_s (P := True) (f' := (3, [some (vR 1), some (vI (-3))], [vI (-2), vI (-3)], LAY (shA A) (shF F), 0, 0)) hc93 2 rfl trivial ?_
    refine R_ic (t := 23) hc93 rfl rfl (fun (z : (-2) < (-3)) => absurd z (by decide)) (fun (_ : ¬ ((-2) < (-3))) => ?_)
    refine R_s (P := True) (f' := (9, [some (vR 1), some (vI (-3))], [vI (-8), vI (-3)], LAY (shA A) (shF F), 0, 0)) hc93 2 rfl trivial ?_
    refine R_ic (t := 23) hc93 rfl rfl (fun (z : (-3) < (-8)) => absurd z (by decide)) (fun (_ : ¬ ((-3) < (-8))) => ?_)
    refine R_s (P := inI 3 ∧ (0 ≤ 3 ∧ 3 < ((A 87).length : Int)) ∧ inI ((rd (A 87) 3) + 1) ∧ (0 ≤ 3 ∧ 3 < ((A 87).length : Int)) ∧ True) (f' := (24, [some (vR 1), some (vI (-3))], [vI (-3)], LAY (u (shA A) 87 (wr (A 87) 3 ((rd (A 87) 3) + 1))) (shF F), 0, 0)) hc93 10 rfl ⟨⟨by omega, by omega⟩, ⟨by omega, by omega⟩, ⟨by omega, by omega⟩, ⟨by omega, by omega⟩, trivial⟩ ?_
    refine R_reti hc93 rfl rfl ?_
    refine R_s (f' := (30, [some (vR 1), some (vI t), some (vI d)], [vI (-3)], LAY (u (shA A) 87 (wr (A 87) 3 ((rd (A 87) 3) + 1))) (shF F), 0, 0)) hc69 0 rfl trivial ?_
    refine R_reti hc69 rfl rfl ⟨⟨_, rfl⟩, ⟨_, _, rfl, rfl⟩, ?_⟩
    refine R_s (P := True) (f' := (2, [some (vR 88), some (vI t), some (vI d)], [vI t, vR 88], LAY (u (shA A) 87 (wr (A 87) 3 ((rd (A 87) 3) + 1))) (shF F), 0, 0)) hc124 2 rfl trivial ?_
    refine R_cv hc124 rfl rfl ?_ (fun r G h => h)
    refine R_s (P := inI ((F 4) - 1) ∧ True) (f' := (8, [some (vR 88), some (vI t)], [vI ((F 4) - 1), vI 0, vI t], LAY (u (shA A) 87 (wr (A 87) 3 ((rd (A 87) 3) + 1))) (shF F), 0, 0)) hc107 6 rfl ⟨⟨by omega, by omega⟩, trivial⟩ ?_
    refine R_cs hc107 rfl rfl ?_ (fun r G h => h)
    refine R_s (P := True) (f' := (2, [some (vI t), some (vI 0), some (vI ((F 4) - 1))], [vI 0, vI t], LAY (u (shA A) 87 (wr (A 87) 3 ((rd (A 87) 3) + 1))) (shF F), 0, 0)) hc104 2 rfl trivial ?_
    refine R_ic (t := 14) hc104 rfl rfl (fun (_ : t < 0) => ?_) (fun (z : ¬ (t < 0)) => absurd (show t < 0 by omega) z)
    refine R_s (P := True) (f' := (15, [some (vI t), some (vI 0), some (vI ((F 4) - 1))], [vI 0], LAY (u (shA A) 87 (wr (A 87) 3 ((rd (A 87) 3) + 1))) (shF F), 0, 0)) hc104 1 rfl trivial ?_
    refine R_retz hc104 rfl rfl (Or.inl rfl) ?_
    refine R_s (f' := (11, [some (vR 88), some (vI t)], [vI 0], LAY (u (shA A) 87 (wr (A 87) 3 ((rd (A 87) 3) + 1))) (shF F), 0, 0)) hc107 0 rfl trivial ?_
    refine R_retz hc107 rfl rfl (Or.inl rfl) ?_
    refine R_s (f' := (5, [some (vR 88), some (vI t), some (vI d)], [vI 0], LAY (u (shA A) 87 (wr (A 87) 3 ((rd (A 87) 3) + 1))) (shF F), 0, 0)) hc124 0 rfl trivial ?_
    refine R_if (t := 21) hc124 rfl rfl (fun (_ : 0 = 0) => ?_) (fun (z : ¬ (0 = 0)) => absurd (by decide) z)
    refine R_s (P := True) (f' := (24, [some (vR 88), some (vI t), some (vI d)], [vI (-3), vR 88], LAY (u (shA A) 87 (wr (A 87) 3 ((rd (A 87) 3) + 1))) (shF F), 0, 0)) hc124 2 rfl trivial ?_
    refine R_cv hc124 rfl rfl ?_ (fun r G h => h)
    refine R_s (P := inI 3 ∧ (0 ≤ 3 ∧ 3 < ((A 87).length : Int)) ∧ inI ((rd (A 87) 3) + 1) ∧ (0 ≤ 3 ∧ 3 < ((A 87).length : Int)) ∧ True) (f' := (12, [some (vR 88), some (vI (-3))], [vI (-3)], LAY (u (u (shA A) 87 (wr (A 87) 3 ((rd (A 87) 3) + 1))) 89 (wr (A 87) 3 ((rd (A 87) 3) + 1))) (shF F), 0, 0)) hc105 10 rfl ⟨⟨by omega, by omega⟩, ⟨by omega, by omega⟩, ⟨by omega, by omega⟩, ⟨by omega, by omega⟩, trivial⟩ ?_
    refine R_reti hc105 rfl rfl ?_
    refine R_s (f' := (27, [some (vR 88), some (vI t), some (vI d)], [vI (-3)], LAY (u (u (shA A) 87 (wr (A 87) 3 ((rd (A 87) 3) + 1))) 89 (wr (A 87) 3 ((rd (A 87) 3) + 1))) (shF F), 0, 0)) hc124 0 rfl trivial ?_
    refine R_reti hc124 rfl rfl ?_
    first
      | (exfalso; omega; done)
      | exact ⟨rfl, (u A 87 (wr (A 87) 3 ((rd (A 87) 3) + 1))), F, rfl, rfl, REL_ref hR0 (by decide) (by decide)⟩
  · refine R_s (P := True) (f' := (9, [some (vR 12), some (vI t)], [vI (F 4), vI t], LAY (shA A) (shF F), 0, 0)) hc52 3 rfl trivial ?_
    refine R_ic (t := 16) hc52 rfl rfl (fun (c2 : F 4 ≤ t) => ?_) (fun (c2 : ¬ (F 4 ≤ t)) => ?_)
    · refine R_s (P := True) (f' := (17, [some (vR 12), some (vI t)], [vI 0], LAY (shA A) (shF F), 0, 0)) hc52 1 rfl trivial ?_
      refine R_retz hc52 rfl rfl (Or.inl rfl) ?_
      refine R_s (f' := (8, [some (vR 1), some (vI t), some (vI d)], [vI 0], LAY (shA A) (shF F), 0, 0)) hc69 0 rfl trivial ?_
      refine R_if (t := 24) hc69 rfl rfl (fun (_ : 0 = 0) => ?_) (fun (z : ¬ (0 = 0)) => absurd (by decide) z)
      refine R_s (P := True) (f' := (27, [some (vR 1), some (vI t), some (vI d)], [vI (-3), vR 1], LAY (shA A) (shF F), 0, 0)) hc69 2 rfl trivial ?_
      refine R_cv hc69 rfl rfl ?_ (fun r G h => h)
      refine R_s (P := True) (f' := (3, [some (vR 1), some (vI (-3))], [vI (-2), vI (-3)], LAY (shA A) (shF F), 0, 0)) hc93 2 rfl trivial ?_
      refine R_ic (t := 23) hc93 rfl rfl (fun (z : (-2) < (-3)) => absurd z (by decide)) (fun (_ : ¬ ((-2) < (-3))) => ?_)
      refine R_s (P := True) (f' := (9, [some (vR 1), some (vI (-3))], [vI (-8), vI (-3)], LAY (shA A) (shF F), 0, 0)) hc93 2 rfl trivial ?_
      refine R_ic (t := 23) hc93 rfl rfl (fun (z : (-3) < (-8)) => absurd z (by decide)) (fun (_ : ¬ ((-3) < (-8))) => ?_)
      refine R_s (P := inI 3 ∧ (0 ≤ 3 ∧ 3 < ((A 87).length : Int)) ∧ inI ((rd (A 87) 3) + 1) ∧ (0 ≤ 3 ∧ 3 < ((A 87).length : Int)) ∧ True) (f' := (24, [some (vR 1), some (vI (-3))], [vI (-3)], LAY (u (shA A) 87 (wr (A 87) 3 ((rd (A 87) 3) + 1))) (shF F), 0, 0)) hc93 10 rfl ⟨⟨by omega, by omega⟩, ⟨by omega, by omega⟩, ⟨by omega, by omega⟩, ⟨by omega, by omega⟩, trivial⟩ ?_
      refine R_reti hc93 rfl rfl ?_
      refine R_s (f' := (30, [some (vR 1), some (vI t), some (vI d)], [vI (-3)], LAY (u (shA A) 87 (wr (A 87) 3 ((rd (A 87) 3) + 1))) (shF F), 0, 0)) hc69 0 rfl trivial ?_
      refine R_reti hc69 rfl rfl ⟨⟨_, rfl⟩, ⟨_, _, rfl, rfl⟩, ?_⟩
      refine R_s (P := True) (f' := (2, [some (vR 88), some (vI t), some (vI d)], [vI t, vR 88], LAY (u (shA A) 87 (wr (A 87) 3 ((rd (A 87) 3) + 1))) (shF F), 0, 0)) hc124 2 rfl trivial ?_
      refine R_cv hc124 rfl rfl ?_ (fun r G h => h)
      refine R_s (P := inI ((F 4) - 1) ∧ True) (f' := (8, [some (vR 88), some (vI t)], [vI ((F 4) - 1), vI 0, vI t], LAY (u (shA A) 87 (wr (A 87) 3 ((rd (A 87) 3) + 1))) (shF F), 0, 0)) hc107 6 rfl ⟨⟨by omega, by omega⟩, trivial⟩ ?_
      refine R_cs hc107 rfl rfl ?_ (fun r G h => h)
      refine R_s (P := True) (f' := (2, [some (vI t), some (vI 0), some (vI ((F 4) - 1))], [vI 0, vI t], LAY (u (shA A) 87 (wr (A 87) 3 ((rd (A 87) 3) + 1))) (shF F), 0, 0)) hc104 2 rfl trivial ?_
      refine R_ic (t := 14) hc104 rfl rfl (fun (z : t < 0) => absurd z (by omega)) (fun (_ : ¬ (t < 0)) => ?_)
      refine R_s (P := True) (f' := (7, [some (vI t), some (vI 0), some (vI ((F 4) - 1))], [vI ((F 4) - 1), vI t], LAY (u (shA A) 87 (wr (A 87) 3 ((rd (A 87) 3) + 1))) (shF F), 0, 0)) hc104 2 rfl trivial ?_
      refine R_ic (t := 14) hc104 rfl rfl (fun (_ : (F 4) - 1 < t) => ?_) (fun (z : ¬ ((F 4) - 1 < t)) => absurd (show (F 4) - 1 < t by omega) z)
      refine R_s (P := True) (f' := (15, [some (vI t), some (vI 0), some (vI ((F 4) - 1))], [vI 0], LAY (u (shA A) 87 (wr (A 87) 3 ((rd (A 87) 3) + 1))) (shF F), 0, 0)) hc104 1 rfl trivial ?_
      refine R_retz hc104 rfl rfl (Or.inl rfl) ?_
      refine R_s (f' := (11, [some (vR 88), some (vI t)], [vI 0], LAY (u (shA A) 87 (wr (A 87) 3 ((rd (A 87) 3) + 1))) (shF F), 0, 0)) hc107 0 rfl trivial ?_
      refine R_retz hc107 rfl rfl (Or.inl rfl) ?_
      refine R_s (f' := (5, [some (vR 88), some (vI t), some (vI d)], [vI 0], LAY (u (shA A) 87 (wr (A 87) 3 ((rd (A 87) 3) + 1))) (shF F), 0, 0)) hc124 0 rfl trivial ?_
      refine R_if (t := 21) hc124 rfl rfl (fun (_ : 0 = 0) => ?_) (fun (z : ¬ (0 = 0)) => absurd (by decide) z)
      refine R_s (P := True) (f' := (24, [some (vR 88), some (vI t), some (vI d)], [vI (-3), vR 88], LAY (u (shA A) 87 (wr (A 87) 3 ((rd (A 87) 3) + 1))) (shF F), 0, 0)) hc124 2 rfl trivial ?_
      refine R_cv hc124 rfl rfl ?_ (fun r G h => h)
      refine R_s (P := inI 3 ∧ (0 ≤ 3 ∧ 3 < ((A 87).length : Int)) ∧ inI ((rd (A 87) 3) + 1) ∧ (0 ≤ 3 ∧ 3 < ((A 87).length : Int)) ∧ True) (f' := (12, [some (vR 88), some (vI (-3))], [vI (-3)], LAY (u (u (shA A) 87 (wr (A 87) 3 ((rd (A 87) 3) + 1))) 89 (wr (A 87) 3 ((rd (A 87) 3) + 1))) (shF F), 0, 0)) hc105 10 rfl ⟨⟨by omega, by omega⟩, ⟨by omega, by omega⟩, ⟨by omega, by omega⟩, ⟨by omega, by omega⟩, trivial⟩ ?_
      refine R_reti hc105 rfl rfl ?_
      refine R_s (f' := (27, [some (vR 88), some (vI t), some (vI d)], [vI (-3)], LAY (u (u (shA A) 87 (wr (A 87) 3 ((rd (A 87) 3) + 1))) 89 (wr (A 87) 3 ((rd (A 87) 3) + 1))) (shF F), 0, 0)) hc124 0 rfl trivial ?_
      refine R_reti hc124 rfl rfl ?_
      first
        | (exfalso; omega; done)
        | exact ⟨rfl, (u A 87 (wr (A 87) 3 ((rd (A 87) 3) + 1))), F, rfl, rfl, REL_ref hR0 (by decide) (by decide)⟩
    · refine R_s (P := True) (f' := (17, [some (vR 12), some (vI t)], [vI 1], LAY (shA A) (shF F), 0, 0)) hc52 2 rfl trivial ?_
      refine R_retz hc52 rfl rfl (Or.inr rfl) ?_
      refine R_s (f' := (8, [some (vR 1), some (vI t), some (vI d)], [vI 1], LAY (shA A) (shF F), 0, 0)) hc69 0 rfl trivial ?_
      refine R_if (t := 24) hc69 rfl rfl (fun (z : 1 = 0) => absurd z (by decide)) (fun (_ : ¬ (1 = 0)) => ?_)
      refine R_s (P := True) (f' := (13, [some (vR 1), some (vI t), some (vI d)], [vI (-1), vI d], LAY (shA A) (shF F), 0, 0)) hc69 2 rfl trivial ?_
      refine R_ic (t := 31) hc69 rfl rfl (fun (c4 : d = (-1)) => ?_) (fun (c4 : ¬ (d = (-1))) => ?_)
      · refine R_s (P := True) (f' := (33, [some (vR 1), some (vI t), some (vI d)], [vI (-1), vI d], LAY (shA A) (shF F), 0, 0)) hc69 2 rfl trivial ?_
        refine R_ic (t := 45) hc69 rfl rfl (fun (z : ¬ d = (-1)) => absurd z (by omega)) (fun (_ : ¬ (¬ d = (-1))) => ?_)
        refine R_s (P := True) (f' := (41, [some (vR 1), some (vI t), some (vI d)], [vI t, vR 12], LAY (shA A) (shF F), 0, 0)) hc69 3 rfl trivial ?_
        refine R_cv hc69 rfl rfl ?_ (fun r G h => h)
        refine R_s (P := True) (f' := (8, [some (vR 12), some (vI t), some (vI 12), some (vI 0)], [vI 6, vI 0], LAY (shA A) (shF F), 0, 0)) hc54 6 rfl trivial ?_
        refine R_ic (t := 31) hc54 rfl rfl (fun (z : 6 ≤ 0) => absurd z (by decide)) (fun (_ : ¬ (6 ≤ 0)) => ?_)
        refine R_s (P := inI (t * 6) ∧ inI ((t * 6) + 0) ∧ (0 ≤ (t * 6) + 0 ∧ (t * 6) + 0 < ((A 16).length : Int)) ∧ inI (12 - (rd (A 16) ((t * 6) + 0))) ∧ inI 1 ∧ True) (f' := (8, [some (vR 12), some (vI t), some (vI (12 - (rd (A 16) ((t * 6) + 0)))), some (vI 1)], [vI 6, vI 1], LAY (shA A) (shF F), 0, 0)) hc54 15 rfl ⟨⟨by omega, by omega⟩, ⟨by omega, by omega⟩, ⟨by omega, by omega⟩, ⟨by omega, by omega⟩, ⟨by omega, by omega⟩, trivial⟩ ?_
        refine R_ic (t := 31) hc54 rfl rfl (fun (z : 6 ≤ 1) => absurd z (by decide)) (fun (_ : ¬ (6 ≤ 1)) => ?_)
        refine R_s (P := inI (t * 6) ∧ inI ((t * 6) + 1) ∧ (0 ≤ (t * 6) + 1 ∧ (t * 6) + 1 < ((A 16).length : Int)) ∧ inI ((12 - (rd (A 16) ((t * 6) + 0))) - (rd (A 16) ((t * 6) + 1))) ∧ inI 2 ∧ True) (f' := (8, [some (vR 12), some (vI t), some (vI ((12 - (rd (A 16) ((t * 6) + 0))) - (rd (A 16) ((t * 6) + 1)))), some (vI 2)], [vI 6, vI 2], LAY (shA A) (shF F), 0, 0)) hc54 15 rfl ⟨⟨by omega, by omega⟩, ⟨by omega, by omega⟩, ⟨by omega, by omega⟩, ⟨by omega, by omega⟩, ⟨by omega, by omega⟩, trivial⟩ ?_
        refine R_ic (t := 31) hc54 rfl rfl (fun (z : 6 ≤ 2) => absurd z (by decide)) (fun (_ : ¬ (6 ≤ 2)) => ?_)
        refine R_s (P := inI (t * 6) ∧ inI ((t * 6) + 2) ∧ (0 ≤ (t * 6) + 2 ∧ (t * 6) + 2 < ((A 16).length : Int)) ∧ inI (((12 - (rd (A 16) ((t * 6) + 0))) - (rd (A 16) ((t * 6) + 1))) - (rd (A 16) ((t * 6) + 2))) ∧ inI 3 ∧ True) (f' := (8, [some (vR 12), some (vI t), some (vI (((12 - (rd (A 16) ((t * 6) + 0))) - (rd (A 16) ((t * 6) + 1))) - (rd (A 16) ((t * 6) + 2)))), some (vI 3)], [vI 6, vI 3], LAY (shA A) (shF F), 0, 0)) hc54 15 rfl ⟨⟨by omega, by omega⟩, ⟨by omega, by omega⟩, ⟨by omega, by omega⟩, ⟨by omega, by omega⟩, ⟨by omega, by omega⟩, trivial⟩ ?_
        refine R_ic (t := 31) hc54 rfl rfl (fun (z : 6 ≤ 3) => absurd z (by decide)) (fun (_ : ¬ (6 ≤ 3)) => ?_)
        refine R_s (P := inI (t * 6) ∧ inI ((t * 6) + 3) ∧ (0 ≤ (t * 6) + 3 ∧ (t * 6) + 3 < ((A 16).length : Int)) ∧ inI ((((12 - (rd (A 16) ((t * 6) + 0))) - (rd (A 16) ((t * 6) + 1))) - (rd (A 16) ((t * 6) + 2))) - (rd (A 16) ((t * 6) + 3))) ∧ inI 4 ∧ True) (f' := (8, [some (vR 12), some (vI t), some (vI ((((12 - (rd (A 16) ((t * 6) + 0))) - (rd (A 16) ((t * 6) + 1))) - (rd (A 16) ((t * 6) + 2))) - (rd (A 16) ((t * 6) + 3)))), some (vI 4)], [vI 6, vI 4], LAY (shA A) (shF F), 0, 0)) hc54 15 rfl ⟨⟨by omega, by omega⟩, ⟨by omega, by omega⟩, ⟨by omega, by omega⟩, ⟨by omega, by omega⟩, ⟨by omega, by omega⟩, trivial⟩ ?_
        refine R_ic (t := 31) hc54 rfl rfl (fun (z : 6 ≤ 4) => absurd z (by decide)) (fun (_ : ¬ (6 ≤ 4)) => ?_)
        refine R_s (P := inI (t * 6) ∧ inI ((t * 6) + 4) ∧ (0 ≤ (t * 6) + 4 ∧ (t * 6) + 4 < ((A 16).length : Int)) ∧ inI (((((12 - (rd (A 16) ((t * 6) + 0))) - (rd (A 16) ((t * 6) + 1))) - (rd (A 16) ((t * 6) + 2))) - (rd (A 16) ((t * 6) + 3))) - (rd (A 16) ((t * 6) + 4))) ∧ inI 5 ∧ True) (f' := (8, [some (vR 12), some (vI t), some (vI (((((12 - (rd (A 16) ((t * 6) + 0))) - (rd (A 16) ((t * 6) + 1))) - (rd (A 16) ((t * 6) + 2))) - (rd (A 16) ((t * 6) + 3))) - (rd (A 16) ((t * 6) + 4)))), some (vI 5)], [vI 6, vI 5], LAY (shA A) (shF F), 0, 0)) hc54 15 rfl ⟨⟨by omega, by omega⟩, ⟨by omega, by omega⟩, ⟨by omega, by omega⟩, ⟨by omega, by omega⟩, ⟨by omega, by omega⟩, trivial⟩ ?_
        refine R_ic (t := 31) hc54 rfl rfl (fun (z : 6 ≤ 5) => absurd z (by decide)) (fun (_ : ¬ (6 ≤ 5)) => ?_)
        refine R_s (P := inI (t * 6) ∧ inI ((t * 6) + 5) ∧ (0 ≤ (t * 6) + 5 ∧ (t * 6) + 5 < ((A 16).length : Int)) ∧ inI ((((((12 - (rd (A 16) ((t * 6) + 0))) - (rd (A 16) ((t * 6) + 1))) - (rd (A 16) ((t * 6) + 2))) - (rd (A 16) ((t * 6) + 3))) - (rd (A 16) ((t * 6) + 4))) - (rd (A 16) ((t * 6) + 5))) ∧ inI 6 ∧ True) (f' := (8, [some (vR 12), some (vI t), some (vI ((((((12 - (rd (A 16) ((t * 6) + 0))) - (rd (A 16) ((t * 6) + 1))) - (rd (A 16) ((t * 6) + 2))) - (rd (A 16) ((t * 6) + 3))) - (rd (A 16) ((t * 6) + 4))) - (rd (A 16) ((t * 6) + 5)))), some (vI 6)], [vI 6, vI 6], LAY (shA A) (shF F), 0, 0)) hc54 15 rfl ⟨⟨by omega, by omega⟩, ⟨by omega, by omega⟩, ⟨by omega, by omega⟩, ⟨by omega, by omega⟩, ⟨by omega, by omega⟩, trivial⟩ ?_
        refine R_ic (t := 31) hc54 rfl rfl (fun (_ : 6 ≤ 6) => ?_) (fun (z : ¬ (6 ≤ 6)) => absurd (by decide) z)
        refine R_s (P := True) (f' := (32, [some (vR 12), some (vI t), some (vI ((((((12 - (rd (A 16) ((t * 6) + 0))) - (rd (A 16) ((t * 6) + 1))) - (rd (A 16) ((t * 6) + 2))) - (rd (A 16) ((t * 6) + 3))) - (rd (A 16) ((t * 6) + 4))) - (rd (A 16) ((t * 6) + 5)))), some (vI 6)], [vI ((((((12 - (rd (A 16) ((t * 6) + 0))) - (rd (A 16) ((t * 6) + 1))) - (rd (A 16) ((t * 6) + 2))) - (rd (A 16) ((t * 6) + 3))) - (rd (A 16) ((t * 6) + 4))) - (rd (A 16) ((t * 6) + 5)))], LAY (shA A) (shF F), 0, 0)) hc54 1 rfl trivial ?_
        refine R_reti hc54 rfl rfl ?_
        refine R_s (f' := (44, [some (vR 1), some (vI t), some (vI d)], [vI ((((((12 - (rd (A 16) ((t * 6) + 0))) - (rd (A 16) ((t * 6) + 1))) - (rd (A 16) ((t * 6) + 2))) - (rd (A 16) ((t * 6) + 3))) - (rd (A 16) ((t * 6) + 4))) - (rd (A 16) ((t * 6) + 5)))], LAY (shA A) (shF F), 0, 0)) hc69 0 rfl trivial ?_
        refine R_reti hc69 rfl rfl ⟨⟨_, rfl⟩, ⟨_, _, rfl, rfl⟩, ?_⟩
        refine R_s (P := True) (f' := (2, [some (vR 88), some (vI t), some (vI d)], [vI t, vR 88], LAY (shA A) (shF F), 0, 0)) hc124 2 rfl trivial ?_
        refine R_cv hc124 rfl rfl ?_ (fun r G h => h)
        refine R_s (P := inI ((F 4) - 1) ∧ True) (f' := (8, [some (vR 88), some (vI t)], [vI ((F 4) - 1), vI 0, vI t], LAY (shA A) (shF F), 0, 0)) hc107 6 rfl ⟨⟨by omega, by omega⟩, trivial⟩ ?_
        refine R_cs hc107 rfl rfl ?_ (fun r G h => h)
        refine R_s (P := True) (f' := (2, [some (vI t), some (vI 0), some (vI ((F 4) - 1))], [vI 0, vI t], LAY (shA A) (shF F), 0, 0)) hc104 2 rfl trivial ?_
        refine R_ic (t := 14) hc104 rfl rfl (fun (z : t < 0) => absurd z (by omega)) (fun (_ : ¬ (t < 0)) => ?_)
        refine R_s (P := True) (f' := (7, [some (vI t), some (vI 0), some (vI ((F 4) - 1))], [vI ((F 4) - 1), vI t], LAY (shA A) (shF F), 0, 0)) hc104 2 rfl trivial ?_
        refine R_ic (t := 14) hc104 rfl rfl (fun (z : (F 4) - 1 < t) => absurd z (by omega)) (fun (_ : ¬ ((F 4) - 1 < t)) => ?_)
        refine R_s (P := True) (f' := (15, [some (vI t), some (vI 0), some (vI ((F 4) - 1))], [vI 1], LAY (shA A) (shF F), 0, 0)) hc104 2 rfl trivial ?_
        refine R_retz hc104 rfl rfl (Or.inr rfl) ?_
        refine R_s (f' := (11, [some (vR 88), some (vI t)], [vI 1], LAY (shA A) (shF F), 0, 0)) hc107 0 rfl trivial ?_
        refine R_retz hc107 rfl rfl (Or.inr rfl) ?_
        refine R_s (f' := (5, [some (vR 88), some (vI t), some (vI d)], [vI 1], LAY (shA A) (shF F), 0, 0)) hc124 0 rfl trivial ?_
        refine R_if (t := 21) hc124 rfl rfl (fun (z : 1 = 0) => absurd z (by decide)) (fun (_ : ¬ (1 = 0)) => ?_)
        refine R_s (P := True) (f' := (10, [some (vR 88), some (vI t), some (vI d)], [vI (-1), vI d], LAY (shA A) (shF F), 0, 0)) hc124 2 rfl trivial ?_
        refine R_ic (t := 28) hc124 rfl rfl (fun (_ : d = (-1)) => ?_) (fun (z : ¬ (d = (-1))) => absurd (show d = (-1) by omega) z)
        refine R_s (P := True) (f' := (30, [some (vR 88), some (vI t), some (vI d)], [vI (-1), vI d], LAY (shA A) (shF F), 0, 0)) hc124 2 rfl trivial ?_
        refine R_ic (t := 41) hc124 rfl rfl (fun (z : ¬ d = (-1)) => absurd z (by omega)) (fun (_ : ¬ (¬ d = (-1))) => ?_)
        refine R_s (P := True) (f' := (35, [some (vR 88), some (vI t), some (vI d)], [vI t, vR 88], LAY (shA A) (shF F), 0, 0)) hc124 2 rfl trivial ?_
        refine R_cv hc124 rfl rfl ?_ (fun r G h => h)
        refine R_s (P := True) (f' := (8, [some (vR 88), some (vI t), some (vI 12), some (vI 0)], [vI 6, vI 0], LAY (shA A) (shF F), 0, 0)) hc122 6 rfl trivial ?_
        refine R_ic (t := 31) hc122 rfl rfl (fun (z : 6 ≤ 0) => absurd z (by decide)) (fun (_ : ¬ (6 ≤ 0)) => ?_)
        refine R_s (P := inI (6 * t) ∧ inI ((6 * t) + 0) ∧ (0 ≤ (6 * t) + 0 ∧ (6 * t) + 0 < ((A 16).length : Int)) ∧ inI (12 - (rd (A 16) ((6 * t) + 0))) ∧ inI 1 ∧ True) (f' := (8, [some (vR 88), some (vI t), some (vI (12 - (rd (A 16) ((6 * t) + 0)))), some (vI 1)], [vI 6, vI 1], LAY (shA A) (shF F), 0, 0)) hc122 15 rfl ⟨⟨by omega, by omega⟩, ⟨by omega, by omega⟩, ⟨by omega, by omega⟩, ⟨by omega, by omega⟩, ⟨by omega, by omega⟩, trivial⟩ ?_
        refine R_ic (t := 31) hc122 rfl rfl (fun (z : 6 ≤ 1) => absurd z (by decide)) (fun (_ : ¬ (6 ≤ 1)) => ?_)
        refine R_s (P := inI (6 * t) ∧ inI ((6 * t) + 1) ∧ (0 ≤ (6 * t) + 1 ∧ (6 * t) + 1 < ((A 16).length : Int)) ∧ inI ((12 - (rd (A 16) ((6 * t) + 0))) - (rd (A 16) ((6 * t) + 1))) ∧ inI 2 ∧ True) (f' := (8, [some (vR 88), some (vI t), some (vI ((12 - (rd (A 16) ((6 * t) + 0))) - (rd (A 16) ((6 * t) + 1)))), some (vI 2)], [vI 6, vI 2], LAY (shA A) (shF F), 0, 0)) hc122 15 rfl ⟨⟨by omega, by omega⟩, ⟨by omega, by omega⟩, ⟨by omega, by omega⟩, ⟨by omega, by omega⟩, ⟨by omega, by omega⟩, trivial⟩ ?_
        refine R_ic (t := 31) hc122 rfl rfl (fun (z : 6 ≤ 2) => absurd z (by decide)) (fun (_ : ¬ (6 ≤ 2)) => ?_)
        refine R_s (P := inI (6 * t) ∧ inI ((6 * t) + 2) ∧ (0 ≤ (6 * t) + 2 ∧ (6 * t) + 2 < ((A 16).length : Int)) ∧ inI (((12 - (rd (A 16) ((6 * t) + 0))) - (rd (A 16) ((6 * t) + 1))) - (rd (A 16) ((6 * t) + 2))) ∧ inI 3 ∧ True) (f' := (8, [some (vR 88), some (vI t), some (vI (((12 - (rd (A 16) ((6 * t) + 0))) - (rd (A 16) ((6 * t) + 1))) - (rd (A 16) ((6 * t) + 2)))), some (vI 3)], [vI 6, vI 3], LAY (shA A) (shF F), 0, 0)) hc122 15 rfl ⟨⟨by omega, by omega⟩, ⟨by omega, by omega⟩, ⟨by omega, by omega⟩, ⟨by omega, by omega⟩, ⟨by omega, by omega⟩, trivial⟩ ?_
        refine R_ic (t := 31) hc122 rfl rfl (fun (z : 6 ≤ 3) => absurd z (by decide)) (fun (_ : ¬ (6 ≤ 3)) => ?_)
        refine R_s (P := inI (6 * t) ∧ inI ((6 * t) + 3) ∧ (0 ≤ (6 * t) + 3 ∧ (6 * t) + 3 < ((A 16).length : Int)) ∧ inI ((((12 - (rd (A 16) ((6 * t) + 0))) - (rd (A 16) ((6 * t) + 1))) - (rd (A 16) ((6 * t) + 2))) - (rd (A 16) ((6 * t) + 3))) ∧ inI 4 ∧ True) (f' := (8, [some (vR 88), some (vI t), some (vI ((((12 - (rd (A 16) ((6 * t) + 0))) - (rd (A 16) ((6 * t) + 1))) - (rd (A 16) ((6 * t) + 2))) - (rd (A 16) ((6 * t) + 3)))), some (vI 4)], [vI 6, vI 4], LAY (shA A) (shF F), 0, 0)) hc122 15 rfl ⟨⟨by omega, by omega⟩, ⟨by omega, by omega⟩, ⟨by omega, by omega⟩, ⟨by omega, by omega⟩, ⟨by omega, by omega⟩, trivial⟩ ?_
        refine R_ic (t := 31) hc122 rfl rfl (fun (z : 6 ≤ 4) => absurd z (by decide)) (fun (_ : ¬ (6 ≤ 4)) => ?_)
        refine R_s (P := inI (6 * t) ∧ inI ((6 * t) + 4) ∧ (0 ≤ (6 * t) + 4 ∧ (6 * t) + 4 < ((A 16).length : Int)) ∧ inI (((((12 - (rd (A 16) ((6 * t) + 0))) - (rd (A 16) ((6 * t) + 1))) - (rd (A 16) ((6 * t) + 2))) - (rd (A 16) ((6 * t) + 3))) - (rd (A 16) ((6 * t) + 4))) ∧ inI 5 ∧ True) (f' := (8, [some (vR 88), some (vI t), some (vI (((((12 - (rd (A 16) ((6 * t) + 0))) - (rd (A 16) ((6 * t) + 1))) - (rd (A 16) ((6 * t) + 2))) - (rd (A 16) ((6 * t) + 3))) - (rd (A 16) ((6 * t) + 4)))), some (vI 5)], [vI 6, vI 5], LAY (shA A) (shF F), 0, 0)) hc122 15 rfl ⟨⟨by omega, by omega⟩, ⟨by omega, by omega⟩, ⟨by omega, by omega⟩, ⟨by omega, by omega⟩, ⟨by omega, by omega⟩, trivial⟩ ?_
        refine R_ic (t := 31) hc122 rfl rfl (fun (z : 6 ≤ 5) => absurd z (by decide)) (fun (_ : ¬ (6 ≤ 5)) => ?_)
        refine R_s (P := inI (6 * t) ∧ inI ((6 * t) + 5) ∧ (0 ≤ (6 * t) + 5 ∧ (6 * t) + 5 < ((A 16).length : Int)) ∧ inI ((((((12 - (rd (A 16) ((6 * t) + 0))) - (rd (A 16) ((6 * t) + 1))) - (rd (A 16) ((6 * t) + 2))) - (rd (A 16) ((6 * t) + 3))) - (rd (A 16) ((6 * t) + 4))) - (rd (A 16) ((6 * t) + 5))) ∧ inI 6 ∧ True) (f' := (8, [some (vR 88), some (vI t), some (vI ((((((12 - (rd (A 16) ((6 * t) + 0))) - (rd (A 16) ((6 * t) + 1))) - (rd (A 16) ((6 * t) + 2))) - (rd (A 16) ((6 * t) + 3))) - (rd (A 16) ((6 * t) + 4))) - (rd (A 16) ((6 * t) + 5)))), some (vI 6)], [vI 6, vI 6], LAY (shA A) (shF F), 0, 0)) hc122 15 rfl ⟨⟨by omega, by omega⟩, ⟨by omega, by omega⟩, ⟨by omega, by omega⟩, ⟨by omega, by omega⟩, ⟨by omega, by omega⟩, trivial⟩ ?_
        refine R_ic (t := 31) hc122 rfl rfl (fun (_ : 6 ≤ 6) => ?_) (fun (z : ¬ (6 ≤ 6)) => absurd (by decide) z)
        refine R_s (P := True) (f' := (32, [some (vR 88), some (vI t), some (vI ((((((12 - (rd (A 16) ((6 * t) + 0))) - (rd (A 16) ((6 * t) + 1))) - (rd (A 16) ((6 * t) + 2))) - (rd (A 16) ((6 * t) + 3))) - (rd (A 16) ((6 * t) + 4))) - (rd (A 16) ((6 * t) + 5)))), some (vI 6)], [vI ((((((12 - (rd (A 16) ((6 * t) + 0))) - (rd (A 16) ((6 * t) + 1))) - (rd (A 16) ((6 * t) + 2))) - (rd (A 16) ((6 * t) + 3))) - (rd (A 16) ((6 * t) + 4))) - (rd (A 16) ((6 * t) + 5)))], LAY (shA A) (shF F), 0, 0)) hc122 1 rfl trivial ?_
        refine R_reti hc122 rfl rfl ?_
        refine R_s (f' := (38, [some (vR 88), some (vI t), some (vI d)], [vI ((((((12 - (rd (A 16) ((6 * t) + 0))) - (rd (A 16) ((6 * t) + 1))) - (rd (A 16) ((6 * t) + 2))) - (rd (A 16) ((6 * t) + 3))) - (rd (A 16) ((6 * t) + 4))) - (rd (A 16) ((6 * t) + 5)))], LAY (shA A) (shF F), 0, 0)) hc124 0 rfl trivial ?_
        refine R_s (P := True) (f' := (52, [some (vR 88), some (vI t), some (vI d)], [vI ((((((12 - (rd (A 16) ((6 * t) + 0))) - (rd (A 16) ((6 * t) + 1))) - (rd (A 16) ((6 * t) + 2))) - (rd (A 16) ((6 * t) + 3))) - (rd (A 16) ((6 * t) + 4))) - (rd (A 16) ((6 * t) + 5)))], LAY (shA A) (shF F), 0, 0)) hc124 1 rfl trivial ?_
        refine R_reti hc124 rfl rfl ?_
        first
          | (exfalso; omega; done)
          | exact ⟨(by rw [show (((((12 - (rd (A 16) ((6 * t) + 0))) - (rd (A 16) ((6 * t) + 1))) - (rd (A 16) ((6 * t) + 2))) - (rd (A 16) ((6 * t) + 3))) - (rd (A 16) ((6 * t) + 4))) - (rd (A 16) ((6 * t) + 5)) = (((((12 - (rd (A 16) ((t * 6) + 0))) - (rd (A 16) ((t * 6) + 1))) - (rd (A 16) ((t * 6) + 2))) - (rd (A 16) ((t * 6) + 3))) - (rd (A 16) ((t * 6) + 4))) - (rd (A 16) ((t * 6) + 5)) by omega]), A, F, rfl, rfl, REL_c hR0⟩
      · refine R_s (P := True) (f' := (18, [some (vR 1), some (vI t), some (vI d)], [vI d, vR 1], LAY (shA A) (shF F), 0, 0)) hc69 2 rfl trivial ?_
        refine R_cv hc69 rfl rfl ?_ (fun r G h => h)
        refine R_s (P := True) (f' := (1, [some (vR 1), some (vI d)], [vI d], LAY (shA A) (shF F), 0, 0)) hc98 1 rfl trivial ?_
        refine R_if (t := 16) hc98 rfl rfl (fun (c13 : d < 0) => ?_) (fun (c13 : ¬ (d < 0)) => ?_)
        · refine R_s (P := True) (f' := (17, [some (vR 1), some (vI d)], [vI 0], LAY (shA A) (shF F), 0, 0)) hc98 1 rfl trivial ?_
          refine R_retz hc98 rfl rfl (Or.inl rfl) ?_
          refine R_s (f' := (21, [some (vR 1), some (vI t), some (vI d)], [vI 0], LAY (shA A) (shF F), 0, 0)) hc69 0 rfl trivial ?_
          refine R_if (t := 31) hc69 rfl rfl (fun (z : ¬ 0 = 0) => absurd z (by decide)) (fun (_ : ¬ (¬ 0 = 0)) => ?_)
          refine R_s (P := True) (f' := (27, [some (vR 1), some (vI t), some (vI d)], [vI (-3), vR 1], LAY (shA A) (shF F), 0, 0)) hc69 2 rfl trivial ?_
          refine R_cv hc69 rfl rfl ?_ (fun r G h => h)
          refine R_s (P := True) (f' := (3, [some (vR 1), some (vI (-3))], [vI (-2), vI (-3)], LAY (shA A) (shF F), 0, 0)) hc93 2 rfl trivial ?_
          refine R_ic (t := 23) hc93 rfl rfl (fun (z : (-2) < (-3)) => absurd z (by decide)) (fun (_ : ¬ ((-2) < (-3))) => ?_)
          refine R_s (P := True) (f' := (9, [some (vR 1), some (vI (-3))], [vI (-8), vI (-3)], LAY (shA A) (shF F), 0, 0)) hc93 2 rfl trivial ?_
          refine R_ic (t := 23) hc93 rfl rfl (fun (z : (-3) < (-8)) => absurd z (by decide)) (fun (_ : ¬ ((-3) < (-8))) => ?_)
          refine R_s (P := inI 3 ∧ (0 ≤ 3 ∧ 3 < ((A 87).length : Int)) ∧ inI ((rd (A 87) 3) + 1) ∧ (0 ≤ 3 ∧ 3 < ((A 87).length : Int)) ∧ True) (f' := (24, [some (vR 1), some (vI (-3))], [vI (-3)], LAY (u (shA A) 87 (wr (A 87) 3 ((rd (A 87) 3) + 1))) (shF F), 0, 0)) hc93 10 rfl ⟨⟨by omega, by omega⟩, ⟨by omega, by omega⟩, ⟨by omega, by omega⟩, ⟨by omega, by omega⟩, trivial⟩ ?_
          refine R_reti hc93 rfl rfl ?_
          refine R_s (f' := (30, [some (vR 1), some (vI t), some (vI d)], [vI (-3)], LAY (u (shA A) 87 (wr (A 87) 3 ((rd (A 87) 3) + 1))) (shF F), 0, 0)) hc69 0 rfl trivial ?_
          refine R_reti hc69 rfl rfl ⟨⟨_, rfl⟩, ⟨_, _, rfl, rfl⟩, ?_⟩
          refine R_s (P := True) (f' := (2, [some (vR 88), some (vI t), some (vI d)], [vI t, vR 88], LAY (u (shA A) 87 (wr (A 87) 3 ((rd (A 87) 3) + 1))) (shF F), 0, 0)) hc124 2 rfl trivial ?_
          refine R_cv hc124 rfl rfl ?_ (fun r G h => h)
          refine R_s (P := inI ((F 4) - 1) ∧ True) (f' := (8, [some (vR 88), some (vI t)], [vI ((F 4) - 1), vI 0, vI t], LAY (u (shA A) 87 (wr (A 87) 3 ((rd (A 87) 3) + 1))) (shF F), 0, 0)) hc107 6 rfl ⟨⟨by omega, by omega⟩, trivial⟩ ?_
          refine R_cs hc107 rfl rfl ?_ (fun r G h => h)
          refine R_s (P := True) (f' := (2, [some (vI t), some (vI 0), some (vI ((F 4) - 1))], [vI 0, vI t], LAY (u (shA A) 87 (wr (A 87) 3 ((rd (A 87) 3) + 1))) (shF F), 0, 0)) hc104 2 rfl trivial ?_
          refine R_ic (t := 14) hc104 rfl rfl (fun (z : t < 0) => absurd z (by omega)) (fun (_ : ¬ (t < 0)) => ?_)
          refine R_s (P := True) (f' := (7, [some (vI t), some (vI 0), some (vI ((F 4) - 1))], [vI ((F 4) - 1), vI t], LAY (u (shA A) 87 (wr (A 87) 3 ((rd (A 87) 3) + 1))) (shF F), 0, 0)) hc104 2 rfl trivial ?_
          refine R_ic (t := 14) hc104 rfl rfl (fun (z : (F 4) - 1 < t) => absurd z (by omega)) (fun (_ : ¬ ((F 4) - 1 < t)) => ?_)
          refine R_s (P := True) (f' := (15, [some (vI t), some (vI 0), some (vI ((F 4) - 1))], [vI 1], LAY (u (shA A) 87 (wr (A 87) 3 ((rd (A 87) 3) + 1))) (shF F), 0, 0)) hc104 2 rfl trivial ?_
          refine R_retz hc104 rfl rfl (Or.inr rfl) ?_
          refine R_s (f' := (11, [some (vR 88), some (vI t)], [vI 1], LAY (u (shA A) 87 (wr (A 87) 3 ((rd (A 87) 3) + 1))) (shF F), 0, 0)) hc107 0 rfl trivial ?_
          refine R_retz hc107 rfl rfl (Or.inr rfl) ?_
          refine R_s (f' := (5, [some (vR 88), some (vI t), some (vI d)], [vI 1], LAY (u (shA A) 87 (wr (A 87) 3 ((rd (A 87) 3) + 1))) (shF F), 0, 0)) hc124 0 rfl trivial ?_
          refine R_if (t := 21) hc124 rfl rfl (fun (z : 1 = 0) => absurd z (by decide)) (fun (_ : ¬ (1 = 0)) => ?_)
          refine R_s (P := True) (f' := (10, [some (vR 88), some (vI t), some (vI d)], [vI (-1), vI d], LAY (u (shA A) 87 (wr (A 87) 3 ((rd (A 87) 3) + 1))) (shF F), 0, 0)) hc124 2 rfl trivial ?_
          refine R_ic (t := 28) hc124 rfl rfl (fun (z : d = (-1)) => absurd z (by omega)) (fun (_ : ¬ (d = (-1))) => ?_)
          refine R_s (P := True) (f' := (15, [some (vR 88), some (vI t), some (vI d)], [vI d, vR 88], LAY (u (shA A) 87 (wr (A 87) 3 ((rd (A 87) 3) + 1))) (shF F), 0, 0)) hc124 2 rfl trivial ?_
          refine R_cv hc124 rfl rfl ?_ (fun r G h => h)
          refine R_s (P := inI ((F 0) - 1) ∧ True) (f' := (8, [some (vR 88), some (vI d)], [vI ((F 0) - 1), vI 0, vI d], LAY (u (shA A) 87 (wr (A 87) 3 ((rd (A 87) 3) + 1))) (shF F), 0, 0)) hc108 6 rfl ⟨⟨by omega, by omega⟩, trivial⟩ ?_
          refine R_cs hc108 rfl rfl ?_ (fun r G h => h)
          refine R_s (P := True) (f' := (2, [some (vI d), some (vI 0), some (vI ((F 0) - 1))], [vI 0, vI d], LAY (u (shA A) 87 (wr (A 87) 3 ((rd (A 87) 3) + 1))) (shF F), 0, 0)) hc104 2 rfl trivial ?_
          refine R_ic (t := 14) hc104 rfl rfl (fun (_ : d < 0) => ?_) (fun (z : ¬ (d < 0)) => absurd (show d < 0 by omega) z)
          refine R_s (P := True) (f' := (15, [some (vI d), some (vI 0), some (vI ((F 0) - 1))], [vI 0], LAY (u (shA A) 87 (wr (A 87) 3 ((rd (A 87) 3) + 1))) (shF F), 0, 0)) hc104 1 rfl trivial ?_
          refine R_retz hc104 rfl rfl (Or.inl rfl) ?_
          refine R_s (f' := (11, [some (vR 88), some (vI d)], [vI 0], LAY (u (shA A) 87 (wr (A 87) 3 ((rd (A 87) 3) + 1))) (shF F), 0, 0)) hc108 0 rfl trivial ?_
          refine R_retz hc108 rfl rfl (Or.inl rfl) ?_
          refine R_s (f' := (18, [some (vR 88), some (vI t), some (vI d)], [vI 0], LAY (u (shA A) 87 (wr (A 87) 3 ((rd (A 87) 3) + 1))) (shF F), 0, 0)) hc124 0 rfl trivial ?_
          refine R_if (t := 28) hc124 rfl rfl (fun (z : ¬ 0 = 0) => absurd z (by decide)) (fun (_ : ¬ (¬ 0 = 0)) => ?_)
          refine R_s (P := True) (f' := (24, [some (vR 88), some (vI t), some (vI d)], [vI (-3), vR 88], LAY (u (shA A) 87 (wr (A 87) 3 ((rd (A 87) 3) + 1))) (shF F), 0, 0)) hc124 2 rfl trivial ?_
          refine R_cv hc124 rfl rfl ?_ (fun r G h => h)
          refine R_s (P := inI 3 ∧ (0 ≤ 3 ∧ 3 < ((A 87).length : Int)) ∧ inI ((rd (A 87) 3) + 1) ∧ (0 ≤ 3 ∧ 3 < ((A 87).length : Int)) ∧ True) (f' := (12, [some (vR 88), some (vI (-3))], [vI (-3)], LAY (u (u (shA A) 87 (wr (A 87) 3 ((rd (A 87) 3) + 1))) 89 (wr (A 87) 3 ((rd (A 87) 3) + 1))) (shF F), 0, 0)) hc105 10 rfl ⟨⟨by omega, by omega⟩, ⟨by omega, by omega⟩, ⟨by omega, by omega⟩, ⟨by omega, by omega⟩, trivial⟩ ?_
          refine R_reti hc105 rfl rfl ?_
          refine R_s (f' := (27, [some (vR 88), some (vI t), some (vI d)], [vI (-3)], LAY (u (u (shA A) 87 (wr (A 87) 3 ((rd (A 87) 3) + 1))) 89 (wr (A 87) 3 ((rd (A 87) 3) + 1))) (shF F), 0, 0)) hc124 0 rfl trivial ?_
          refine R_reti hc124 rfl rfl ?_
          first
            | (exfalso; omega; done)
            | exact ⟨rfl, (u A 87 (wr (A 87) 3 ((rd (A 87) 3) + 1))), F, rfl, rfl, REL_ref hR0 (by decide) (by decide)⟩
        · refine R_s (P := True) (f' := (9, [some (vR 1), some (vI d)], [vI (F 0), vI d], LAY (shA A) (shF F), 0, 0)) hc98 3 rfl trivial ?_
          refine R_ic (t := 16) hc98 rfl rfl (fun (c14 : F 0 ≤ d) => ?_) (fun (c14 : ¬ (F 0 ≤ d)) => ?_)
          · refine R_s (P := True) (f' := (17, [some (vR 1), some (vI d)], [vI 0], LAY (shA A) (shF F), 0, 0)) hc98 1 rfl trivial ?_
            refine R_retz hc98 rfl rfl (Or.inl rfl) ?_
            refine R_s (f' := (21, [some (vR 1), some (vI t), some (vI d)], [vI 0], LAY (shA A) (shF F), 0, 0)) hc69 0 rfl trivial ?_
            refine R_if (t := 31) hc69 rfl rfl (fun (z : ¬ 0 = 0) => absurd z (by decide)) (fun (_ : ¬ (¬ 0 = 0)) => ?_)
            refine R_s (P := True) (f' := (27, [some (vR 1), some (vI t), some (vI d)], [vI (-3), vR 1], LAY (shA A) (shF F), 0, 0)) hc69 2 rfl trivial ?_
            refine R_cv hc69 rfl rfl ?_ (fun r G h => h)
            refine R_s (P := True) (f' := (3, [some (vR 1), some (vI (-3))], [vI (-2), vI (-3)], LAY (shA A) (shF F), 0, 0)) hc93 2 rfl trivial ?_
            refine R_ic (t := 23) hc93 rfl rfl (fun (z : (-2) < (-3)) => absurd z (by decide)) (fun (_ : ¬ ((-2) < (-3))) => ?_)
            refine R_s (P := True) (f' := (9, [some (vR 1), some (vI (-3))], [vI (-8), vI (-3)], LAY (shA A) (shF F), 0, 0)) hc93 2 rfl trivial ?_
            refine R_ic (t := 23) hc93 rfl rfl (fun (z : (-3) < (-8)) => absurd z (by decide)) (fun (_ : ¬ ((-3) < (-8))) => ?_)
            refine R_s (P := inI 3 ∧ (0 ≤ 3 ∧ 3 < ((A 87).length : Int)) ∧ inI ((rd (A 87) 3) + 1) ∧ (0 ≤ 3 ∧ 3 < ((A 87).length : Int)) ∧ True) (f' := (24, [some (vR 1), some (vI (-3))], [vI (-3)], LAY (u (shA A) 87 (wr (A 87) 3 ((rd (A 87) 3) + 1))) (shF F), 0, 0)) hc93 10 rfl ⟨⟨by omega, by omega⟩, ⟨by omega, by omega⟩, ⟨by omega, by omega⟩, ⟨by omega, by omega⟩, trivial⟩ ?_
            refine R_reti hc93 rfl rfl ?_
            refine R_s (f' := (30, [some (vR 1), some (vI t), some (vI d)], [vI (-3)], LAY (u (shA A) 87 (wr (A 87) 3 ((rd (A 87) 3) + 1))) (shF F), 0, 0)) hc69 0 rfl trivial ?_
            refine R_reti hc69 rfl rfl ⟨⟨_, rfl⟩, ⟨_, _, rfl, rfl⟩, ?_⟩
            refine R_s (P := True) (f' := (2, [some (vR 88), some (vI t), some (vI d)], [vI t, vR 88], LAY (u (shA A) 87 (wr (A 87) 3 ((rd (A 87) 3) + 1))) (shF F), 0, 0)) hc124 2 rfl trivial ?_
            refine R_cv hc124 rfl rfl ?_ (fun r G h => h)
            refine R_s (P := inI ((F 4) - 1) ∧ True) (f' := (8, [some (vR 88), some (vI t)], [vI ((F 4) - 1), vI 0, vI t], LAY (u (shA A) 87 (wr (A 87) 3 ((rd (A 87) 3) + 1))) (shF F), 0, 0)) hc107 6 rfl ⟨⟨by omega, by omega⟩, trivial⟩ ?_
            refine R_cs hc107 rfl rfl ?_ (fun r G h => h)
            refine R_s (P := True) (f' := (2, [some (vI t), some (vI 0), some (vI ((F 4) - 1))], [vI 0, vI t], LAY (u (shA A) 87 (wr (A 87) 3 ((rd (A 87) 3) + 1))) (shF F), 0, 0)) hc104 2 rfl trivial ?_
            refine R_ic (t := 14) hc104 rfl rfl (fun (z : t < 0) => absurd z (by omega)) (fun (_ : ¬ (t < 0)) => ?_)
            refine R_s (P := True) (f' := (7, [some (vI t), some (vI 0), some (vI ((F 4) - 1))], [vI ((F 4) - 1), vI t], LAY (u (shA A) 87 (wr (A 87) 3 ((rd (A 87) 3) + 1))) (shF F), 0, 0)) hc104 2 rfl trivial ?_
            refine R_ic (t := 14) hc104 rfl rfl (fun (z : (F 4) - 1 < t) => absurd z (by omega)) (fun (_ : ¬ ((F 4) - 1 < t)) => ?_)
            refine R_s (P := True) (f' := (15, [some (vI t), some (vI 0), some (vI ((F 4) - 1))], [vI 1], LAY (u (shA A) 87 (wr (A 87) 3 ((rd (A 87) 3) + 1))) (shF F), 0, 0)) hc104 2 rfl trivial ?_
            refine R_retz hc104 rfl rfl (Or.inr rfl) ?_
            refine R_s (f' := (11, [some (vR 88), some (vI t)], [vI 1], LAY (u (shA A) 87 (wr (A 87) 3 ((rd (A 87) 3) + 1))) (shF F), 0, 0)) hc107 0 rfl trivial ?_
            refine R_retz hc107 rfl rfl (Or.inr rfl) ?_
            refine R_s (f' := (5, [some (vR 88), some (vI t), some (vI d)], [vI 1], LAY (u (shA A) 87 (wr (A 87) 3 ((rd (A 87) 3) + 1))) (shF F), 0, 0)) hc124 0 rfl trivial ?_
            refine R_if (t := 21) hc124 rfl rfl (fun (z : 1 = 0) => absurd z (by decide)) (fun (_ : ¬ (1 = 0)) => ?_)
            refine R_s (P := True) (f' := (10, [some (vR 88), some (vI t), some (vI d)], [vI (-1), vI d], LAY (u (shA A) 87 (wr (A 87) 3 ((rd (A 87) 3) + 1))) (shF F), 0, 0)) hc124 2 rfl trivial ?_
            refine R_ic (t := 28) hc124 rfl rfl (fun (z : d = (-1)) => absurd z (by omega)) (fun (_ : ¬ (d = (-1))) => ?_)
            refine R_s (P := True) (f' := (15, [some (vR 88), some (vI t), some (vI d)], [vI d, vR 88], LAY (u (shA A) 87 (wr (A 87) 3 ((rd (A 87) 3) + 1))) (shF F), 0, 0)) hc124 2 rfl trivial ?_
            refine R_cv hc124 rfl rfl ?_ (fun r G h => h)
            refine R_s (P := inI ((F 0) - 1) ∧ True) (f' := (8, [some (vR 88), some (vI d)], [vI ((F 0) - 1), vI 0, vI d], LAY (u (shA A) 87 (wr (A 87) 3 ((rd (A 87) 3) + 1))) (shF F), 0, 0)) hc108 6 rfl ⟨⟨by omega, by omega⟩, trivial⟩ ?_
            refine R_cs hc108 rfl rfl ?_ (fun r G h => h)
            refine R_s (P := True) (f' := (2, [some (vI d), some (vI 0), some (vI ((F 0) - 1))], [vI 0, vI d], LAY (u (shA A) 87 (wr (A 87) 3 ((rd (A 87) 3) + 1))) (shF F), 0, 0)) hc104 2 rfl trivial ?_
            refine R_ic (t := 14) hc104 rfl rfl (fun (z : d < 0) => absurd z (by omega)) (fun (_ : ¬ (d < 0)) => ?_)
            refine R_s (P := True) (f' := (7, [some (vI d), some (vI 0), some (vI ((F 0) - 1))], [vI ((F 0) - 1), vI d], LAY (u (shA A) 87 (wr (A 87) 3 ((rd (A 87) 3) + 1))) (shF F), 0, 0)) hc104 2 rfl trivial ?_
            refine R_ic (t := 14) hc104 rfl rfl (fun (_ : (F 0) - 1 < d) => ?_) (fun (z : ¬ ((F 0) - 1 < d)) => absurd (show (F 0) - 1 < d by omega) z)
            refine R_s (P := True) (f' := (15, [some (vI d), some (vI 0), some (vI ((F 0) - 1))], [vI 0], LAY (u (shA A) 87 (wr (A 87) 3 ((rd (A 87) 3) + 1))) (shF F), 0, 0)) hc104 1 rfl trivial ?_
            refine R_retz hc104 rfl rfl (Or.inl rfl) ?_
            refine R_s (f' := (11, [some (vR 88), some (vI d)], [vI 0], LAY (u (shA A) 87 (wr (A 87) 3 ((rd (A 87) 3) + 1))) (shF F), 0, 0)) hc108 0 rfl trivial ?_
            refine R_retz hc108 rfl rfl (Or.inl rfl) ?_
            refine R_s (f' := (18, [some (vR 88), some (vI t), some (vI d)], [vI 0], LAY (u (shA A) 87 (wr (A 87) 3 ((rd (A 87) 3) + 1))) (shF F), 0, 0)) hc124 0 rfl trivial ?_
            refine R_if (t := 28) hc124 rfl rfl (fun (z : ¬ 0 = 0) => absurd z (by decide)) (fun (_ : ¬ (¬ 0 = 0)) => ?_)
            refine R_s (P := True) (f' := (24, [some (vR 88), some (vI t), some (vI d)], [vI (-3), vR 88], LAY (u (shA A) 87 (wr (A 87) 3 ((rd (A 87) 3) + 1))) (shF F), 0, 0)) hc124 2 rfl trivial ?_
            refine R_cv hc124 rfl rfl ?_ (fun r G h => h)
            refine R_s (P := inI 3 ∧ (0 ≤ 3 ∧ 3 < ((A 87).length : Int)) ∧ inI ((rd (A 87) 3) + 1) ∧ (0 ≤ 3 ∧ 3 < ((A 87).length : Int)) ∧ True) (f' := (12, [some (vR 88), some (vI (-3))], [vI (-3)], LAY (u (u (shA A) 87 (wr (A 87) 3 ((rd (A 87) 3) + 1))) 89 (wr (A 87) 3 ((rd (A 87) 3) + 1))) (shF F), 0, 0)) hc105 10 rfl ⟨⟨by omega, by omega⟩, ⟨by omega, by omega⟩, ⟨by omega, by omega⟩, ⟨by omega, by omega⟩, trivial⟩ ?_
            refine R_reti hc105 rfl rfl ?_
            refine R_s (f' := (27, [some (vR 88), some (vI t), some (vI d)], [vI (-3)], LAY (u (u (shA A) 87 (wr (A 87) 3 ((rd (A 87) 3) + 1))) 89 (wr (A 87) 3 ((rd (A 87) 3) + 1))) (shF F), 0, 0)) hc124 0 rfl trivial ?_
            refine R_reti hc124 rfl rfl ?_
            first
              | (exfalso; omega; done)
              | exact ⟨rfl, (u A 87 (wr (A 87) 3 ((rd (A 87) 3) + 1))), F, rfl, rfl, REL_ref hR0 (by decide) (by decide)⟩
          · refine R_s (P := True) (f' := (17, [some (vR 1), some (vI d)], [vI 1], LAY (shA A) (shF F), 0, 0)) hc98 2 rfl trivial ?_
            refine R_retz hc98 rfl rfl (Or.inr rfl) ?_
            refine R_s (f' := (21, [some (vR 1), some (vI t), some (vI d)], [vI 1], LAY (shA A) (shF F), 0, 0)) hc69 0 rfl trivial ?_
            refine R_if (t := 31) hc69 rfl rfl (fun (_ : ¬ 1 = 0) => ?_) (fun (z : ¬ (¬ 1 = 0)) => absurd (by decide) z)
            refine R_s (P := True) (f' := (33, [some (vR 1), some (vI t), some (vI d)], [vI (-1), vI d], LAY (shA A) (shF F), 0, 0)) hc69 2 rfl trivial ?_
            refine R_ic (t := 45) hc69 rfl rfl (fun (_ : ¬ d = (-1)) => ?_) (fun (z : ¬ (¬ d = (-1))) => absurd (show ¬ d = (-1) by omega) z)
            refine R_s (P := inI (t * 6) ∧ inI ((t * 6) + d) ∧ (0 ≤ (t * 6) + d ∧ (t * 6) + d < ((A 16).length : Int)) ∧ True) (f' := (59, [some (vR 1), some (vI t), some (vI d)], [vI (rd (A 16) ((t * 6) + d))], LAY (shA A) (shF F), 0, 0)) hc69 9 rfl ⟨⟨by omega, by omega⟩, ⟨by omega, by omega⟩, ⟨by omega, by omega⟩, trivial⟩ ?_
            refine R_reti hc69 rfl rfl ⟨⟨_, rfl⟩, ⟨_, _, rfl, rfl⟩, ?_⟩
            refine R_s (P := True) (f' := (2, [some (vR 88), some (vI t), some (vI d)], [vI t, vR 88], LAY (shA A) (shF F), 0, 0)) hc124 2 rfl trivial ?_
            refine R_cv hc124 rfl rfl ?_ (fun r G h => h)
            refine R_s (P := inI ((F 4) - 1) ∧ True) (f' := (8, [some (vR 88), some (vI t)], [vI ((F 4) - 1), vI 0, vI t], LAY (shA A) (shF F), 0, 0)) hc107 6 rfl ⟨⟨by omega, by omega⟩, trivial⟩ ?_
            refine R_cs hc107 rfl rfl ?_ (fun r G h => h)
            refine R_s (P := True) (f' := (2, [some (vI t), some (vI 0), some (vI ((F 4) - 1))], [vI 0, vI t], LAY (shA A) (shF F), 0, 0)) hc104 2 rfl trivial ?_
            refine R_ic (t := 14) hc104 rfl rfl (fun (z : t < 0) => absurd z (by omega)) (fun (_ : ¬ (t < 0)) => ?_)
            refine R_s (P := True) (f' := (7, [some (vI t), some (vI 0), some (vI ((F 4) - 1))], [vI ((F 4) - 1), vI t], LAY (shA A) (shF F), 0, 0)) hc104 2 rfl trivial ?_
            refine R_ic (t := 14) hc104 rfl rfl (fun (z : (F 4) - 1 < t) => absurd z (by omega)) (fun (_ : ¬ ((F 4) - 1 < t)) => ?_)
            refine R_s (P := True) (f' := (15, [some (vI t), some (vI 0), some (vI ((F 4) - 1))], [vI 1], LAY (shA A) (shF F), 0, 0)) hc104 2 rfl trivial ?_
            refine R_retz hc104 rfl rfl (Or.inr rfl) ?_
            refine R_s (f' := (11, [some (vR 88), some (vI t)], [vI 1], LAY (shA A) (shF F), 0, 0)) hc107 0 rfl trivial ?_
            refine R_retz hc107 rfl rfl (Or.inr rfl) ?_
            refine R_s (f' := (5, [some (vR 88), some (vI t), some (vI d)], [vI 1], LAY (shA A) (shF F), 0, 0)) hc124 0 rfl trivial ?_
            refine R_if (t := 21) hc124 rfl rfl (fun (z : 1 = 0) => absurd z (by decide)) (fun (_ : ¬ (1 = 0)) => ?_)
            refine R_s (P := True) (f' := (10, [some (vR 88), some (vI t), some (vI d)], [vI (-1), vI d], LAY (shA A) (shF F), 0, 0)) hc124 2 rfl trivial ?_
            refine R_ic (t := 28) hc124 rfl rfl (fun (z : d = (-1)) => absurd z (by omega)) (fun (_ : ¬ (d = (-1))) => ?_)
            refine R_s (P := True) (f' := (15, [some (vR 88), some (vI t), some (vI d)], [vI d, vR 88], LAY (shA A) (shF F), 0, 0)) hc124 2 rfl trivial ?_
            refine R_cv hc124 rfl rfl ?_ (fun r G h => h)
            refine R_s (P := inI ((F 0) - 1) ∧ True) (f' := (8, [some (vR 88), some (vI d)], [vI ((F 0) - 1), vI 0, vI d], LAY (shA A) (shF F), 0, 0)) hc108 6 rfl ⟨⟨by omega, by omega⟩, trivial⟩ ?_
            refine R_cs hc108 rfl rfl ?_ (fun r G h => h)
            refine R_s (P := True) (f' := (2, [some (vI d), some (vI 0), some (vI ((F 0) - 1))], [vI 0, vI d], LAY (shA A) (shF F), 0, 0)) hc104 2 rfl trivial ?_
            refine R_ic (t := 14) hc104 rfl rfl (fun (z : d < 0) => absurd z (by omega)) (fun (_ : ¬ (d < 0)) => ?_)
            refine R_s (P := True) (f' := (7, [some (vI d), some (vI 0), some (vI ((F 0) - 1))], [vI ((F 0) - 1), vI d], LAY (shA A) (shF F), 0, 0)) hc104 2 rfl trivial ?_
            refine R_ic (t := 14) hc104 rfl rfl (fun (z : (F 0) - 1 < d) => absurd z (by omega)) (fun (_ : ¬ ((F 0) - 1 < d)) => ?_)
            refine R_s (P := True) (f' := (15, [some (vI d), some (vI 0), some (vI ((F 0) - 1))], [vI 1], LAY (shA A) (shF F), 0, 0)) hc104 2 rfl trivial ?_
            refine R_retz hc104 rfl rfl (Or.inr rfl) ?_
            refine R_s (f' := (11, [some (vR 88), some (vI d)], [vI 1], LAY (shA A) (shF F), 0, 0)) hc108 0 rfl trivial ?_
            refine R_retz hc108 rfl rfl (Or.inr rfl) ?_
            refine R_s (f' := (18, [some (vR 88), some (vI t), some (vI d)], [vI 1], LAY (shA A) (shF F), 0, 0)) hc124 0 rfl trivial ?_
            refine R_if (t := 28) hc124 rfl rfl (fun (_ : ¬ 1 = 0) => ?_) (fun (z : ¬ (¬ 1 = 0)) => absurd (by decide) z)
            refine R_s (P := True) (f' := (30, [some (vR 88), some (vI t), some (vI d)], [vI (-1), vI d], LAY (shA A) (shF F), 0, 0)) hc124 2 rfl trivial ?_
            refine R_ic (t := 41) hc124 rfl rfl (fun (_ : ¬ d = (-1)) => ?_) (fun (z : ¬ (¬ d = (-1))) => absurd (show ¬ d = (-1) by omega) z)
            refine R_s (P := inI (6 * t) ∧ inI ((6 * t) + d) ∧ (0 ≤ (6 * t) + d ∧ (6 * t) + d < ((A 16).length : Int)) ∧ True) (f' := (52, [some (vR 88), some (vI t), some (vI d)], [vI (rd (A 16) ((6 * t) + d))], LAY (shA A) (shF F), 0, 0)) hc124 8 rfl ⟨⟨by omega, by omega⟩, ⟨by omega, by omega⟩, ⟨by omega, by omega⟩, trivial⟩ ?_
            refine R_reti hc124 rfl rfl ?_
            first
              | (exfalso; omega; done)
              | exact ⟨(by rw [show rd (A 16) ((6 * t) + d) = rd (A 16) ((t * 6) + d) by omega]), A, F, rfl, rfl, REL_c hR0⟩

theorem op_part {c : Int} {A : Nat → List Int} {F : Nat → Int} (hR : REL c A F) (hc : c < 512) (t d n : Int) (i_t : inI t) (i_d : inI d) (i_n : inI n) : R 68 (0, L0 68 [vR 1, vI t, vI d, vI n], [], LAY (shA A) (shF F), 0, 0) (fun r G => (∃ x, r = some (vI x)) ∧ (∃ (A1 : Nat → List Int) (F1 : Nat → Int), G = LAY A1 F1 ∧ A1 0 = A 0) ∧ R 123 (0, L0 123 [vR 88, vI t, vI d, vI n], [], G, 0, 0) (fun r2 G2 => r2 = r ∧ ∃ (A' : Nat → List Int) (F' : Nat → Int), G2 = LAY (shA A') (shF F') ∧ A' 0 = A 0 ∧ REL (c + 1) A' F')) := by
  have hR0 := hR
  obtain ⟨hL, hPE, hTH, hTP, hDE, hLE, hNO, hAC, hRO, hRE⟩ := hR
  have j_t := i_t
  unfold inI at j_t
  have j_d := i_d
  unfold inI at j_d
  have j_n := i_n
  unfold inI at j_n
  have h87 : (A 87).length = 9 := hL 87 (by decide)
  have h3 : (A 3).length = 30 := hL 3 (by decide)
  have h4 : (A 4).length = 30 := hL 4 (by decide)
  have h5 : (A 5).length = 30 := hL 5 (by decide)
  have h6 : (A 6).length = 30 := hL 6 (by decide)
  have h7 : (A 7).length = 30 := hL 7 (by decide)
  have h94 : (A 94).length = 30 := hL 94 (by decide)
  have h13 : (A 13).length = 10 := hL 13 (by decide)
  have h14 : (A 14).length = 10 := hL 14 (by decide)
  have h15 : (A 15).length = 10 := hL 15 (by decide)
  have h16 : (A 16).length = 60 := hL 16 (by decide)
  have h80 : (A 80).length = 30 := hL 80 (by decide)
  have h81 : (A 81).length = 30 := hL 81 (by decide)
  have h82 : (A 82).length = 30 := hL 82 (by decide)
  have h83 : (A 83).length = 30 := hL 83 (by decide)
  have h84 : (A 84).length = 30 := hL 84 (by decide)
  have h85 : (A 85).length = 8 := hL 85 (by decide)
  have h101 : (A 101).length = 38 := hL 101 (by decide)
  have h102 : (A 102).length = 90 := hL 102 (by decide)
  have r2 := REFU_at hRE (k := 2) (by decide) (by decide) hc
  have r3 := REFU_at hRE (k := 3) (by decide) (by decide) hc
  have r4 := REFU_at hRE (k := 4) (by decide) (by decide) hc
  have r5 := REFU_at hRE (k := 5) (by decide) (by decide) hc
  have r6 := REFU_at hRE (k := 6) (by decide) (by decide) hc
  have r7 := REFU_at hRE (k := 7) (by decide) (by decide) hc
  have r8 := REFU_at hRE (k := 8) (by decide) (by decide) hc
  obtain ⟨t1, t2, t3, t4, t5, t6⟩ := hTH
  obtain ⟨p1, p2, p3, p4, p5, p6⟩ := hPE
  have g0 := t5 (t * 6 + 0)
  have m0 : rd (A 16) (6 * t + 0) = rd (A 16) (t * 6 + 0) := by rw [show 6 * t + 0 = t * 6 + 0 by omega]
  have g1 := t5 (t * 6 + 1)
  have m1 : rd (A 16) (6 * t + 1) = rd (A 16) (t * 6 + 1) := by rw [show 6 * t + 1 = t * 6 + 1 by omega]
  have g2 := t5 (t * 6 + 2)
  have m2 : rd (A 16) (6 * t + 2) = rd (A 16) (t * 6 + 2) := by rw [show 6 * t + 2 = t * 6 + 2 by omega]
  have g3 := t5 (t * 6 + 3)
  have m3 : rd (A 16) (6 * t + 3) = rd (A 16) (t * 6 + 3) := by rw [show 6 * t + 3 = t * 6 + 3 by omega]
  have g4 := t5 (t * 6 + 4)
  have m4 : rd (A 16) (6 * t + 4) = rd (A 16) (t * 6 + 4) := by rw [show 6 * t + 4 = t * 6 + 4 by omega]
  have g5 := t5 (t * 6 + 5)
  have m5 : rd (A 16) (6 * t + 5) = rd (A 16) (t * 6 + 5) := by rw [show 6 * t + 5 = t * 6 + 5 by omega]
  have s6 := t6 t
  have g60 : rd (A 16) (t * 6) = rd (A 16) (t * 6 + 0) := by rw [show t * 6 + 0 = t * 6 by omega]
  unfold sum6 at s6
  have gd := t5 (t * 6 + d)
  have md : rd (A 16) (6 * t + d) = rd (A 16) (t * 6 + d) := by rw [show 6 * t + d = t * 6 + d by omega]
  refine R_s (P := True) (f' := (5, [some (vR 1), some (vI t), some (vI d), some (vI n)], [vI t, vR 12], LAY (shA A) (shF F), 0, 0)) hc68 3 rfl trivial ?_
  refine R_cv hc68 rfl rfl ?_ (fun r G h => h)
  refine R_s (P := True) (f' := (1, [some (vR 12), some (vI t)], [vI t], LAY (shA A) (shF F), 0, 0)) hc52 1 rfl trivial ?_
  refine R_if (t := 16) hc52 rfl rfl (fun (c1 : t < 0) => ?_) (fun (c1 : ¬ (t < 0)) => ?_)
  · refine R_s (P := True) (f' := (17, [some (vR 12), some (vI t)], [vI 0], LAY (shA A) (shF F), 0, 0)) hc52 1 rfl trivial ?_
    refine R_retz hc52 rfl rfl (Or.inl rfl) ?_
    refine R_s (f' := (8, [some (vR 1), some (vI t), some (vI d), some (vI n)], [vI 0], LAY (shA A) (shF F), 0, 0)) hc68 0 rfl trivial ?_
    refine R_if (t := 19) hc68 rfl rfl (fun (_ : 0 = 0) => ?_) (fun (z : ¬ (0 = 0)) => absurd (by decide) z)
    refine R_s (P := True) (f' := (22, [some (vR 1), some (vI t), some (vI d), some (vI n)], [vI (-3), vR 1], LAY (shA A) (shF F), 0, 0)) hc68 2 rfl trivial ?_
    refine R_cv hc68 rfl rfl ?_ (fun r G h => h)
    refine R_s (P := True) (f' := (3, [some (vR 1), some (vI (-3))], [vI (-2), vI (-3)], LAY (shA A) (shF F), 0, 0)) hc93 2 rfl trivial ?_
    refine R_ic (t := 23) hc93 rfl rfl (fun (z : (-2) < (-3)) => absurd z (by decide)) (fun (_ : ¬ ((-2) < (-3))) => ?_)
    refine R_s (P := True) (f' := (9, [some (vR 1), some (vI (-3))], [vI (-8), vI (-3)], LAY (shA A) (shF F), 0, 0)) hc93 2 rfl trivial ?_
    refine R_ic (t := 23) hc93 rfl rfl (fun (z : (-3) < (-8)) => absurd z (by decide)) (fun (_ : ¬ ((-3) < (-8))) => ?_)
    refine R_s (P := inI 3 ∧ (0 ≤ 3 ∧ 3 < ((A 87).length : Int)) ∧ inI ((rd (A 87) 3) + 1) ∧ (0 ≤ 3 ∧ 3 < ((A 87).length : Int)) ∧ True) (f' := (24, [some (vR 1), some (vI (-3))], [vI (-3)], LAY (u (shA A) 87 (wr (A 87) 3 ((rd (A 87) 3) + 1))) (shF F), 0, 0)) hc93 10 rfl ⟨⟨by omega, by omega⟩, ⟨by omega, by omega⟩, ⟨by omega, by omega⟩, ⟨by omega, by omega⟩, trivial⟩ ?_
    refine R_reti hc93 rfl rfl ?_
    refine R_s (f' := (25, [some (vR 1), some (vI t), some (vI d), some (vI n)], [vI (-3)], LAY (u (shA A) 87 (wr (A 87) 3 ((rd (A 87) 3) + 1))) (shF F), 0, 0)) hc68 0 rfl trivial ?_
    refine R_reti hc68 rfl rfl ⟨⟨_, rfl⟩, ⟨_, _, rfl, rfl⟩, ?_⟩
    refine R_s (P := True) (f' := (2, [some (vR 88), some (vI t), some (vI d), some (vI n)], [vI t, vR 88], LAY (u (shA A) 87 (wr (A 87) 3 ((rd (A 87) 3) + 1))) (shF F), 0, 0)) hc123 2 rfl trivial ?_
    refine R_cv hc123 rfl rfl ?_ (fun r G h => h)
    refine R_s (P := inI ((F 4) - 1) ∧ True) (f' := (8, [some (vR 88), some (vI t)], [vI ((F 4) - 1), vI 0, vI t], LAY (u (shA A) 87 (wr (A 87) 3 ((rd (A 87) 3) + 1))) (shF F), 0, 0)) hc107 6 rfl ⟨⟨by omega, by omega⟩, trivial⟩ ?_
    refine R_cs hc107 rfl rfl ?_ (fun r G h => h)
    refine R_s (P := True) (f' := (2, [some (vI t), some (vI 0), some (vI ((F 4) - 1))], [vI 0, vI t], LAY (u (shA A) 87 (wr (A 87) 3 ((rd (A 87) 3) + 1))) (shF F), 0, 0)) hc104 2 rfl trivial ?_
    refine R_ic (t := 14) hc104 rfl rfl (fun (_ : t < 0) => ?_) (fun (z : ¬ (t < 0)) => absurd (show t < 0 by omega) z)
    refine R_s (P := True) (f' := (15, [some (vI t), some (vI 0), some (vI ((F 4) - 1))], [vI 0], LAY (u (shA A) 87 (wr (A 87) 3 ((rd (A 87) 3) + 1))) (shF F), 0, 0)) hc104 1 rfl trivial ?_
    refine R_retz hc104 rfl rfl (Or.inl rfl) ?_
    refine R_s (f' := (11, [some (vR 88), some (vI t)], [vI 0], LAY (u (shA A) 87 (wr (A 87) 3 ((rd (A 87) 3) + 1))) (shF F), 0, 0)) hc107 0 rfl trivial ?_
    refine R_retz hc107 rfl rfl (Or.inl rfl) ?_
    refine R_s (f' := (5, [some (vR 88), some (vI t), some (vI d), some (vI n)], [vI 0], LAY (u (shA A) 87 (wr (A 87) 3 ((rd (A 87) 3) + 1))) (shF F), 0, 0)) hc123 0 rfl trivial ?_
    refine R_if (t := 16) hc123 rfl rfl (fun (_ : 0 = 0) => ?_) (fun (z : ¬ (0 = 0)) => absurd (by decide) z)
    refine R_s (P := True) (f' := (19, [some (vR 88), some (vI t), some (vI d), some (vI n)], [vI (-3), vR 88], LAY (u (shA A) 87 (wr (A 87) 3 ((rd (A 87) 3) + 1))) (shF F), 0, 0)) hc123 2 rfl trivial ?_
    refine R_cv hc123 rfl rfl ?_ (fun r G h => h)
    refine R_s (P := inI 3 ∧ (0 ≤ 3 ∧ 3 < ((A 87).length : Int)) ∧ inI ((rd (A 87) 3) + 1) ∧ (0 ≤ 3 ∧ 3 < ((A 87).length : Int)) ∧ True) (f' := (12, [some (vR 88), some (vI (-3))], [vI (-3)], LAY (u (u (shA A) 87 (wr (A 87) 3 ((rd (A 87) 3) + 1))) 89 (wr (A 87) 3 ((rd (A 87) 3) + 1))) (shF F), 0, 0)) hc105 10 rfl ⟨⟨by omega, by omega⟩, ⟨by omega, by omega⟩, ⟨by omega, by omega⟩, ⟨by omega, by omega⟩, trivial⟩ ?_
    refine R_reti hc105 rfl rfl ?_
    refine R_s (f' := (22, [some (vR 88), some (vI t), some (vI d), some (vI n)], [vI (-3)], LAY (u (u (shA A) 87 (wr (A 87) 3 ((rd (A 87) 3) + 1))) 89 (wr (A 87) 3 ((rd (A 87) 3) + 1))) (shF F), 0, 0)) hc123 0 rfl trivial ?_
    refine R_reti hc123 rfl rfl ?_
    first
      | (exfalso; omega; done)
      | exact ⟨rfl, (u A 87 (wr (A 87) 3 ((rd (A 87) 3) + 1))), F, rfl, rfl, REL_ref hR0 (by decide) (by decide)⟩
      | (have e9 : 6 * t + d = t * 6 + d := (by omega); exact ⟨(by rw [e9]), (u A 87 (wr (A 87) 3 ((rd (A 87) 3) + 1))), F, (by rw [e9]; rfl), rfl, REL_ref hR0 (by decide) (by decide)⟩)
  · refine R_s (P := True) (f' := (9, [some (vR 12), some (vI t)], [vI (F 4), vI t], LAY (shA A) (shF F), 0, 0)) hc52 3 rfl trivial ?_
    refine R_ic (t := 16) hc52 rfl rfl (fun (c2 : F 4 ≤ t) => ?_) (fun (c2 : ¬ (F 4 ≤ t)) => ?_)
    · refine R_s (P := True) (f' := (17, [some (vR 12), some (vI t)], [vI 0], LAY (shA A) (shF F), 0, 0)) hc52 1 rfl trivial ?_
      refine R_retz hc52 rfl rfl (Or.inl rfl) ?_
      refine R_s (f' := (8, [some (vR 1), some (vI t), some (vI d), some (vI n)], [vI 0], LAY (shA A) (shF F), 0, 0)) hc68 0 rfl trivial ?_
      refine R_if (t := 19) hc68 rfl rfl (fun (_ : 0 = 0) => ?_) (fun (z : ¬ (0 = 0)) => absurd (by decide) z)
      refine R_s (P := True) (f' := (22, [some (vR 1), some (vI t), some (vI d), some (vI n)], [vI (-3), vR 1], LAY (shA A) (shF F), 0, 0)) hc68 2 rfl trivial ?_
      refine R_cv hc68 rfl rfl ?_ (fun r G h => h)
      refine R_s (P := True) (f' := (3, [some (vR 1), some (vI (-3))], [vI (-2), vI (-3)], LAY (shA A) (shF F), 0, 0)) hc93 2 rfl trivial ?_
      refine R_ic (t := 23) hc93 rfl rfl (fun (z : (-2) < (-3)) => absurd z (by decide)) (fun (_ : ¬ ((-2) < (-3))) => ?_)
      refine R_s (P := True) (f' := (9, [some (vR 1), some (vI (-3))], [vI (-8), vI (-3)], LAY (shA A) (shF F), 0, 0)) hc93 2 rfl trivial ?_
      refine R_ic (t := 23) hc93 rfl rfl (fun (z : (-3) < (-8)) => absurd z (by decide)) (fun (_ : ¬ ((-3) < (-8))) => ?_)
      refine R_s (P := inI 3 ∧ (0 ≤ 3 ∧ 3 < ((A 87).length : Int)) ∧ inI ((rd (A 87) 3) + 1) ∧ (0 ≤ 3 ∧ 3 < ((A 87).length : Int)) ∧ True) (f' := (24, [some (vR 1), some (vI (-3))], [vI (-3)], LAY (u (shA A) 87 (wr (A 87) 3 ((rd (A 87) 3) + 1))) (shF F), 0, 0)) hc93 10 rfl ⟨⟨by omega, by omega⟩, ⟨by omega, by omega⟩, ⟨by omega, by omega⟩, ⟨by omega, by omega⟩, trivial⟩ ?_
      refine R_reti hc93 rfl rfl ?_
      refine R_s (f' := (25, [some (vR 1), some (vI t), some (vI d), some (vI n)], [vI (-3)], LAY (u (shA A) 87 (wr (A 87) 3 ((rd (A 87) 3) + 1))) (shF F), 0, 0)) hc68 0 rfl trivial ?_
      refine R_reti hc68 rfl rfl ⟨⟨_, rfl⟩, ⟨_, _, rfl, rfl⟩, ?_⟩
      refine R_s (P := True) (f' := (2, [some (vR 88), some (vI t), some (vI d), some (vI n)], [vI t, vR 88], LAY (u (shA A) 87 (wr (A 87) 3 ((rd (A 87) 3) + 1))) (shF F), 0, 0)) hc123 2 rfl trivial ?_
      refine R_cv hc123 rfl rfl ?_ (fun r G h => h)
      refine R_s (P := inI ((F 4) - 1) ∧ True) (f' := (8, [some (vR 88), some (vI t)], [vI ((F 4) - 1), vI 0, vI t], LAY (u (shA A) 87 (wr (A 87) 3 ((rd (A 87) 3) + 1))) (shF F), 0, 0)) hc107 6 rfl ⟨⟨by omega, by omega⟩, trivial⟩ ?_
      refine R_cs hc107 rfl rfl ?_ (fun r G h => h)
      refine R_s (P := True) (f' := (2, [some (vI t), some (vI 0), some (vI ((F 4) - 1))], [vI 0, vI t], LAY (u (shA A) 87 (wr (A 87) 3 ((rd (A 87) 3) + 1))) (shF F), 0, 0)) hc104 2 rfl trivial ?_
      refine R_ic (t := 14) hc104 rfl rfl (fun (z : t < 0) => absurd z (by omega)) (fun (_ : ¬ (t < 0)) => ?_)
      refine R_s (P := True) (f' := (7, [some (vI t), some (vI 0), some (vI ((F 4) - 1))], [vI ((F 4) - 1), vI t], LAY (u (shA A) 87 (wr (A 87) 3 ((rd (A 87) 3) + 1))) (shF F), 0, 0)) hc104 2 rfl trivial ?_
      refine R_ic (t := 14) hc104 rfl rfl (fun (_ : (F 4) - 1 < t) => ?_) (fun (z : ¬ ((F 4) - 1 < t)) => absurd (show (F 4) - 1 < t by omega) z)
      refine R_s (P := True) (f' := (15, [some (vI t), some (vI 0), some (vI ((F 4) - 1))], [vI 0], LAY (u (shA A) 87 (wr (A 87) 3 ((rd (A 87) 3) + 1))) (shF F), 0, 0)) hc104 1 rfl trivial ?_
      refine R_retz hc104 rfl rfl (Or.inl rfl) ?_
      refine R_s (f' := (11, [some (vR 88), some (vI t)], [vI 0], LAY (u (shA A) 87 (wr (A 87) 3 ((rd (A 87) 3) + 1))) (shF F), 0, 0)) hc107 0 rfl trivial ?_
      refine R_retz hc107 rfl rfl (Or.inl rfl) ?_
      refine R_s (f' := (5, [some (vR 88), some (vI t), some (vI d), some (vI n)], [vI 0], LAY (u (shA A) 87 (wr (A 87) 3 ((rd (A 87) 3) + 1))) (shF F), 0, 0)) hc123 0 rfl trivial ?_
      refine R_if (t := 16) hc123 rfl rfl (fun (_ : 0 = 0) => ?_) (fun (z : ¬ (0 = 0)) => absurd (by decide) z)
      refine R_s (P := True) (f' := (19, [some (vR 88), some (vI t), some (vI d), some (vI n)], [vI (-3), vR 88], LAY (u (shA A) 87 (wr (A 87) 3 ((rd (A 87) 3) + 1))) (shF F), 0, 0)) hc123 2 rfl trivial ?_
      refine R_cv hc123 rfl rfl ?_ (fun r G h => h)
      refine R_s (P := inI 3 ∧ (0 ≤ 3 ∧ 3 < ((A 87).length : Int)) ∧ inI ((rd (A 87) 3) + 1) ∧ (0 ≤ 3 ∧ 3 < ((A 87).length : Int)) ∧ True) (f' := (12, [some (vR 88), some (vI (-3))], [vI (-3)], LAY (u (u (shA A) 87 (wr (A 87) 3 ((rd (A 87) 3) + 1))) 89 (wr (A 87) 3 ((rd (A 87) 3) + 1))) (shF F), 0, 0)) hc105 10 rfl ⟨⟨by omega, by omega⟩, ⟨by omega, by omega⟩, ⟨by omega, by omega⟩, ⟨by omega, by omega⟩, trivial⟩ ?_
      refine R_reti hc105 rfl rfl ?_
      refine R_s (f' := (22, [some (vR 88), some (vI t), some (vI d), some (vI n)], [vI (-3)], LAY (u (u (shA A) 87 (wr (A 87) 3 ((rd (A 87) 3) + 1))) 89 (wr (A 87) 3 ((rd (A 87) 3) + 1))) (shF F), 0, 0)) hc123 0 rfl trivial ?_
      refine R_reti hc123 rfl rfl ?_
      first
        | (exfalso; omega; done)
        | exact ⟨rfl, (u A 87 (wr (A 87) 3 ((rd (A 87) 3) + 1))), F, rfl, rfl, REL_ref hR0 (by decide) (by decide)⟩
        | (have e9 : 6 * t + d = t * 6 + d := (by omega); exact ⟨(by rw [e9]), (u A 87 (wr (A 87) 3 ((rd (A 87) 3) + 1))), F, (by rw [e9]; rfl), rfl, REL_ref hR0 (by decide) (by decide)⟩)
    · refine R_s (P := True) (f' := (17, [some (vR 12), some (vI t)], [vI 1], LAY (shA A) (shF F), 0, 0)) hc52 2 rfl trivial ?_
      refine R_retz hc52 rfl rfl (Or.inr rfl) ?_
      refine R_s (f' := (8, [some (vR 1), some (vI t), some (vI d), some (vI n)], [vI 1], LAY (shA A) (shF F), 0, 0)) hc68 0 rfl trivial ?_
      refine R_if (t := 19) hc68 rfl rfl (fun (z : 1 = 0) => absurd z (by decide)) (fun (_ : ¬ (1 = 0)) => ?_)
      refine R_s (P := True) (f' := (13, [some (vR 1), some (vI t), some (vI d), some (vI n)], [vI d, vR 1], LAY (shA A) (shF F), 0, 0)) hc68 2 rfl trivial ?_
      refine R_cv hc68 rfl rfl ?_ (fun r G h => h)
      refine R_s (P := True) (f' := (1, [some (vR 1), some (vI d)], [vI d], LAY (shA A) (shF F), 0, 0)) hc98 1 rfl trivial ?_
      refine R_if (t := 16) hc98 rfl rfl (fun (c4 : d < 0) => ?_) (fun (c4 : ¬ (d < 0)) => ?_)
      · refine R_s (P := True) (f' := (17, [some (vR 1), some (vI d)], [vI 0], LAY (shA A) (shF F), 0, 0)) hc98 1 rfl trivial ?_
        refine R_retz hc98 rfl rfl (Or.inl rfl) ?_
        refine R_s (f' := (16, [some (vR 1), some (vI t), some (vI d), some (vI n)], [vI 0], LAY (shA A) (shF F), 0, 0)) hc68 0 rfl trivial ?_
        refine R_if (t := 26) hc68 rfl rfl (fun (z : ¬ 0 = 0) => absurd z (by decide)) (fun (_ : ¬ (¬ 0 = 0)) => ?_)
        refine R_s (P := True) (f' := (22, [some (vR 1), some (vI t), some (vI d), some (vI n)], [vI (-3), vR 1], LAY (shA A) (shF F), 0, 0)) hc68 2 rfl trivial ?_
        refine R_cv hc68 rfl rfl ?_ (fun r G h => h)
        refine R_s (P := True) (f' := (3, [some (vR 1), some (vI (-3))], [vI (-2), vI (-3)], LAY (shA A) (shF F), 0, 0)) hc93 2 rfl trivial ?_
        refine R_ic (t := 23) hc93 rfl rfl (fun (z : (-2) < (-3)) => absurd z (by decide)) (fun (_ : ¬ ((-2) < (-3))) => ?_)
        refine R_s (P := True) (f' := (9, [some (vR 1), some (vI (-3))], [vI (-8), vI (-3)], LAY (shA A) (shF F), 0, 0)) hc93 2 rfl trivial ?_
        refine R_ic (t := 23) hc93 rfl rfl (fun (z : (-3) < (-8)) => absurd z (by decide)) (fun (_ : ¬ ((-3) < (-8))) => ?_)
        refine R_s (P := inI 3 ∧ (0 ≤ 3 ∧ 3 < ((A 87).length : Int)) ∧ inI ((rd (A 87) 3) + 1) ∧ (0 ≤ 3 ∧ 3 < ((A 87).length : Int)) ∧ True) (f' := (24, [some (vR 1), some (vI (-3))], [vI (-3)], LAY (u (shA A) 87 (wr (A 87) 3 ((rd (A 87) 3) + 1))) (shF F), 0, 0)) hc93 10 rfl ⟨⟨by omega, by omega⟩, ⟨by omega, by omega⟩, ⟨by omega, by omega⟩, ⟨by omega, by omega⟩, trivial⟩ ?_
        refine R_reti hc93 rfl rfl ?_
        refine R_s (f' := (25, [some (vR 1), some (vI t), some (vI d), some (vI n)], [vI (-3)], LAY (u (shA A) 87 (wr (A 87) 3 ((rd (A 87) 3) + 1))) (shF F), 0, 0)) hc68 0 rfl trivial ?_
        refine R_reti hc68 rfl rfl ⟨⟨_, rfl⟩, ⟨_, _, rfl, rfl⟩, ?_⟩
        refine R_s (P := True) (f' := (2, [some (vR 88), some (vI t), some (vI d), some (vI n)], [vI t, vR 88], LAY (u (shA A) 87 (wr (A 87) 3 ((rd (A 87) 3) + 1))) (shF F), 0, 0)) hc123 2 rfl trivial ?_
        refine R_cv hc123 rfl rfl ?_ (fun r G h => h)
        refine R_s (P := inI ((F 4) - 1) ∧ True) (f' := (8, [some (vR 88), some (vI t)], [vI ((F 4) - 1), vI 0, vI t], LAY (u (shA A) 87 (wr (A 87) 3 ((rd (A 87) 3) + 1))) (shF F), 0, 0)) hc107 6 rfl ⟨⟨by omega, by omega⟩, trivial⟩ ?_
        refine R_cs hc107 rfl rfl ?_ (fun r G h => h)
        refine R_s (P := True) (f' := (2, [some (vI t), some (vI 0), some (vI ((F 4) - 1))], [vI 0, vI t], LAY (u (shA A) 87 (wr (A 87) 3 ((rd (A 87) 3) + 1))) (shF F), 0, 0)) hc104 2 rfl trivial ?_
        refine R_ic (t := 14) hc104 rfl rfl (fun (z : t < 0) => absurd z (by omega)) (fun (_ : ¬ (t < 0)) => ?_)
        refine R_s (P := True) (f' := (7, [some (vI t), some (vI 0), some (vI ((F 4) - 1))], [vI ((F 4) - 1), vI t], LAY (u (shA A) 87 (wr (A 87) 3 ((rd (A 87) 3) + 1))) (shF F), 0, 0)) hc104 2 rfl trivial ?_
        refine R_ic (t := 14) hc104 rfl rfl (fun (z : (F 4) - 1 < t) => absurd z (by omega)) (fun (_ : ¬ ((F 4) - 1 < t)) => ?_)
        refine R_s (P := True) (f' := (15, [some (vI t), some (vI 0), some (vI ((F 4) - 1))], [vI 1], LAY (u (shA A) 87 (wr (A 87) 3 ((rd (A 87) 3) + 1))) (shF F), 0, 0)) hc104 2 rfl trivial ?_
        refine R_retz hc104 rfl rfl (Or.inr rfl) ?_
        refine R_s (f' := (11, [some (vR 88), some (vI t)], [vI 1], LAY (u (shA A) 87 (wr (A 87) 3 ((rd (A 87) 3) + 1))) (shF F), 0, 0)) hc107 0 rfl trivial ?_
        refine R_retz hc107 rfl rfl (Or.inr rfl) ?_
        refine R_s (f' := (5, [some (vR 88), some (vI t), some (vI d), some (vI n)], [vI 1], LAY (u (shA A) 87 (wr (A 87) 3 ((rd (A 87) 3) + 1))) (shF F), 0, 0)) hc123 0 rfl trivial ?_
        refine R_if (t := 16) hc123 rfl rfl (fun (z : 1 = 0) => absurd z (by decide)) (fun (_ : ¬ (1 = 0)) => ?_)
        refine R_s (P := True) (f' := (10, [some (vR 88), some (vI t), some (vI d), some (vI n)], [vI d, vR 88], LAY (u (shA A) 87 (wr (A 87) 3 ((rd (A 87) 3) + 1))) (shF F), 0, 0)) hc123 2 rfl trivial ?_
        refine R_cv hc123 rfl rfl ?_ (fun r G h => h)
        refine R_s (P := inI ((F 0) - 1) ∧ True) (f' := (8, [some (vR 88), some (vI d)], [vI ((F 0) - 1), vI 0, vI d], LAY (u (shA A) 87 (wr (A 87) 3 ((rd (A 87) 3) + 1))) (shF F), 0, 0)) hc108 6 rfl ⟨⟨by omega, by omega⟩, trivial⟩ ?_
        refine R_cs hc108 rfl rfl ?_ (fun r G h => h)
        refine R_s (P := True) (f' := (2, [some (vI d), some (vI 0), some (vI ((F 0) - 1))], [vI 0, vI d], LAY (u (shA A) 87 (wr (A 87) 3 ((rd (A 87) 3) + 1))) (shF F), 0, 0)) hc104 2 rfl trivial ?_
        refine R_ic (t := 14) hc104 rfl rfl (fun (_ : d < 0) => ?_) (fun (z : ¬ (d < 0)) => absurd (show d < 0 by omega) z)
        refine R_s (P := True) (f' := (15, [some (vI d), some (vI 0), some (vI ((F 0) - 1))], [vI 0], LAY (u (shA A) 87 (wr (A 87) 3 ((rd (A 87) 3) + 1))) (shF F), 0, 0)) hc104 1 rfl trivial ?_
        refine R_retz hc104 rfl rfl (Or.inl rfl) ?_
        refine R_s (f' := (11, [some (vR 88), some (vI d)], [vI 0], LAY (u (shA A) 87 (wr (A 87) 3 ((rd (A 87) 3) + 1))) (shF F), 0, 0)) hc108 0 rfl trivial ?_
        refine R_retz hc108 rfl rfl (Or.inl rfl) ?_
        refine R_s (f' := (13, [some (vR 88), some (vI t), some (vI d), some (vI n)], [vI 0], LAY (u (shA A) 87 (wr (A 87) 3 ((rd (A 87) 3) + 1))) (shF F), 0, 0)) hc123 0 rfl trivial ?_
        refine R_if (t := 23) hc123 rfl rfl (fun (z : ¬ 0 = 0) => absurd z (by decide)) (fun (_ : ¬ (¬ 0 = 0)) => ?_)
        refine R_s (P := True) (f' := (19, [some (vR 88), some (vI t), some (vI d), some (vI n)], [vI (-3), vR 88], LAY (u (shA A) 87 (wr (A 87) 3 ((rd (A 87) 3) + 1))) (shF F), 0, 0)) hc123 2 rfl trivial ?_
        refine R_cv hc123 rfl rfl ?_ (fun r G h => h)
        refine R_s (P := inI 3 ∧ (0 ≤ 3 ∧ 3 < ((A 87).length : Int)) ∧ inI ((rd (A 87) 3) + 1) ∧ (0 ≤ 3 ∧ 3 < ((A 87).length : Int)) ∧ True) (f' := (12, [some (vR 88), some (vI (-3))], [vI (-3)], LAY (u (u (shA A) 87 (wr (A 87) 3 ((rd (A 87) 3) + 1))) 89 (wr (A 87) 3 ((rd (A 87) 3) + 1))) (shF F), 0, 0)) hc105 10 rfl ⟨⟨by omega, by omega⟩, ⟨by omega, by omega⟩, ⟨by omega, by omega⟩, ⟨by omega, by omega⟩, trivial⟩ ?_
        refine R_reti hc105 rfl rfl ?_
        refine R_s (f' := (22, [some (vR 88), some (vI t), some (vI d), some (vI n)], [vI (-3)], LAY (u (u (shA A) 87 (wr (A 87) 3 ((rd (A 87) 3) + 1))) 89 (wr (A 87) 3 ((rd (A 87) 3) + 1))) (shF F), 0, 0)) hc123 0 rfl trivial ?_
        refine R_reti hc123 rfl rfl ?_
        first
          | (exfalso; omega; done)
          | exact ⟨rfl, (u A 87 (wr (A 87) 3 ((rd (A 87) 3) + 1))), F, rfl, rfl, REL_ref hR0 (by decide) (by decide)⟩
          | (have e9 : 6 * t + d = t * 6 + d := (by omega); exact ⟨(by rw [e9]), (u A 87 (wr (A 87) 3 ((rd (A 87) 3) + 1))), F, (by rw [e9]; rfl), rfl, REL_ref hR0 (by decide) (by decide)⟩)
      · refine R_s (P := True) (f' := (9, [some (vR 1), some (vI d)], [vI (F 0), vI d], LAY (shA A) (shF F), 0, 0)) hc98 3 rfl trivial ?_
        refine R_ic (t := 16) hc98 rfl rfl (fun (c5 : F 0 ≤ d) => ?_) (fun (c5 : ¬ (F 0 ≤ d)) => ?_)
        · refine R_s (P := True) (f' := (17, [some (vR 1), some (vI d)], [vI 0], LAY (shA A) (shF F), 0, 0)) hc98 1 rfl trivial ?_
          refine R_retz hc98 rfl rfl (Or.inl rfl) ?_
          refine R_s (f' := (16, [some (vR 1), some (vI t), some (vI d), some (vI n)], [vI 0], LAY (shA A) (shF F), 0, 0)) hc68 0 rfl trivial ?_
          refine R_if (t := 26) hc68 rfl rfl (fun (z : ¬ 0 = 0) => absurd z (by decide)) (fun (_ : ¬ (¬ 0 = 0)) => ?_)
          refine R_s (P := True) (f' := (22, [some (vR 1), some (vI t), some (vI d), some (vI n)], [vI (-3), vR 1], LAY (shA A) (shF F), 0, 0)) hc68 2 rfl trivial ?_
          refine R_cv hc68 rfl rfl ?_ (fun r G h => h)
          refine R_s (P := True) (f' := (3, [some (vR 1), some (vI (-3))], [vI (-2), vI (-3)], LAY (shA A) (shF F), 0, 0)) hc93 2 rfl trivial ?_
          refine R_ic (t := 23) hc93 rfl rfl (fun (z : (-2) < (-3)) => absurd z (by decide)) (fun (_ : ¬ ((-2) < (-3))) => ?_)
          refine R_s (P := True) (f' := (9, [some (vR 1), some (vI (-3))], [vI (-8), vI (-3)], LAY (shA A) (shF F), 0, 0)) hc93 2 rfl trivial ?_
          refine R_ic (t := 23) hc93 rfl rfl (fun (z : (-3) < (-8)) => absurd z (by decide)) (fun (_ : ¬ ((-3) < (-8))) => ?_)
          refine R_s (P := inI 3 ∧ (0 ≤ 3 ∧ 3 < ((A 87).length : Int)) ∧ inI ((rd (A 87) 3) + 1) ∧ (0 ≤ 3 ∧ 3 < ((A 87).length : Int)) ∧ True) (f' := (24, [some (vR 1), some (vI (-3))], [vI (-3)], LAY (u (shA A) 87 (wr (A 87) 3 ((rd (A 87) 3) + 1))) (shF F), 0, 0)) hc93 10 rfl ⟨⟨by omega, by omega⟩, ⟨by omega, by omega⟩, ⟨by omega, by omega⟩, ⟨by omega, by omega⟩, trivial⟩ ?_
          refine R_reti hc93 rfl rfl ?_
          refine R_s (f' := (25, [some (vR 1), some (vI t), some (vI d), some (vI n)], [vI (-3)], LAY (u (shA A) 87 (wr (A 87) 3 ((rd (A 87) 3) + 1))) (shF F), 0, 0)) hc68 0 rfl trivial ?_
          refine R_reti hc68 rfl rfl ⟨⟨_, rfl⟩, ⟨_, _, rfl, rfl⟩, ?_⟩
          refine R_s (P := True) (f' := (2, [some (vR 88), some (vI t), some (vI d), some (vI n)], [vI t, vR 88], LAY (u (shA A) 87 (wr (A 87) 3 ((rd (A 87) 3) + 1))) (shF F), 0, 0)) hc123 2 rfl trivial ?_
          refine R_cv hc123 rfl rfl ?_ (fun r G h => h)
          refine R_s (P := inI ((F 4) - 1) ∧ True) (f' := (8, [some (vR 88), some (vI t)], [vI ((F 4) - 1), vI 0, vI t], LAY (u (shA A) 87 (wr (A 87) 3 ((rd (A 87) 3) + 1))) (shF F), 0, 0)) hc107 6 rfl ⟨⟨by omega, by omega⟩, trivial⟩ ?_
          refine R_cs hc107 rfl rfl ?_ (fun r G h => h)
          refine R_s (P := True) (f' := (2, [some (vI t), some (vI 0), some (vI ((F 4) - 1))], [vI 0, vI t], LAY (u (shA A) 87 (wr (A 87) 3 ((rd (A 87) 3) + 1))) (shF F), 0, 0)) hc104 2 rfl trivial ?_
          refine R_ic (t := 14) hc104 rfl rfl (fun (z : t < 0) => absurd z (by omega)) (fun (_ : ¬ (t < 0)) => ?_)
          refine R_s (P := True) (f' := (7, [some (vI t), some (vI 0), some (vI ((F 4) - 1))], [vI ((F 4) - 1), vI t], LAY (u (shA A) 87 (wr (A 87) 3 ((rd (A 87) 3) + 1))) (shF F), 0, 0)) hc104 2 rfl trivial ?_
          refine R_ic (t := 14) hc104 rfl rfl (fun (z : (F 4) - 1 < t) => absurd z (by omega)) (fun (_ : ¬ ((F 4) - 1 < t)) => ?_)
          refine R_s (P := True) (f' := (15, [some (vI t), some (vI 0), some (vI ((F 4) - 1))], [vI 1], LAY (u (shA A) 87 (wr (A 87) 3 ((rd (A 87) 3) + 1))) (shF F), 0, 0)) hc104 2 rfl trivial ?_
          refine R_retz hc104 rfl rfl (Or.inr rfl) ?_
          refine R_s (f' := (11, [some (vR 88), some (vI t)], [vI 1], LAY (u (shA A) 87 (wr (A 87) 3 ((rd (A 87) 3) + 1))) (shF F), 0, 0)) hc107 0 rfl trivial ?_
          refine R_retz hc107 rfl rfl (Or.inr rfl) ?_
          refine R_s (f' := (5, [some (vR 88), some (vI t), some (vI d), some (vI n)], [vI 1], LAY (u (shA A) 87 (wr (A 87) 3 ((rd (A 87) 3) + 1))) (shF F), 0, 0)) hc123 0 rfl trivial ?_
          refine R_if (t := 16) hc123 rfl rfl (fun (z : 1 = 0) => absurd z (by decide)) (fun (_ : ¬ (1 = 0)) => ?_)
          refine R_s (P := True) (f' := (10, [some (vR 88), some (vI t), some (vI d), some (vI n)], [vI d, vR 88], LAY (u (shA A) 87 (wr (A 87) 3 ((rd (A 87) 3) + 1))) (shF F), 0, 0)) hc123 2 rfl trivial ?_
          refine R_cv hc123 rfl rfl ?_ (fun r G h => h)
          refine R_s (P := inI ((F 0) - 1) ∧ True) (f' := (8, [some (vR 88), some (vI d)], [vI ((F 0) - 1), vI 0, vI d], LAY (u (shA A) 87 (wr (A 87) 3 ((rd (A 87) 3) + 1))) (shF F), 0, 0)) hc108 6 rfl ⟨⟨by omega, by omega⟩, trivial⟩ ?_
          refine R_cs hc108 rfl rfl ?_ (fun r G h => h)
          refine R_s (P := True) (f' := (2, [some (vI d), some (vI 0), some (vI ((F 0) - 1))], [vI 0, vI d], LAY (u (shA A) 87 (wr (A 87) 3 ((rd (A 87) 3) + 1))) (shF F), 0, 0)) hc104 2 rfl trivial ?_
          refine R_ic (t := 14) hc104 rfl rfl (fun (z : d < 0) => absurd z (by omega)) (fun (_ : ¬ (d < 0)) => ?_)
          refine R_s (P := True) (f' := (7, [some (vI d), some (vI 0), some (vI ((F 0) - 1))], [vI ((F 0) - 1), vI d], LAY (u (shA A) 87 (wr (A 87) 3 ((rd (A 87) 3) + 1))) (shF F), 0, 0)) hc104 2 rfl trivial ?_
          refine R_ic (t := 14) hc104 rfl rfl (fun (_ : (F 0) - 1 < d) => ?_) (fun (z : ¬ ((F 0) - 1 < d)) => absurd (show (F 0) - 1 < d by omega) z)
          refine R_s (P := True) (f' := (15, [some (vI d), some (vI 0), some (vI ((F 0) - 1))], [vI 0], LAY (u (shA A) 87 (wr (A 87) 3 ((rd (A 87) 3) + 1))) (shF F), 0, 0)) hc104 1 rfl trivial ?_
          refine R_retz hc104 rfl rfl (Or.inl rfl) ?_
          refine R_s (f' := (11, [some (vR 88), some (vI d)], [vI 0], LAY (u (shA A) 87 (wr (A 87) 3 ((rd (A 87) 3) + 1))) (shF F), 0, 0)) hc108 0 rfl trivial ?_
          refine R_retz hc108 rfl rfl (Or.inl rfl) ?_
          refine R_s (f' := (13, [some (vR 88), some (vI t), some (vI d), some (vI n)], [vI 0], LAY (u (shA A) 87 (wr (A 87) 3 ((rd (A 87) 3) + 1))) (shF F), 0, 0)) hc123 0 rfl trivial ?_
          refine R_if (t := 23) hc123 rfl rfl (fun (z : ¬ 0 = 0) => absurd z (by decide)) (fun (_ : ¬ (¬ 0 = 0)) => ?_)
          refine R_s (P := True) (f' := (19, [some (vR 88), some (vI t), some (vI d), some (vI n)], [vI (-3), vR 88], LAY (u (shA A) 87 (wr (A 87) 3 ((rd (A 87) 3) + 1))) (shF F), 0, 0)) hc123 2 rfl trivial ?_
          refine R_cv hc123 rfl rfl ?_ (fun r G h => h)
          refine R_s (P := inI 3 ∧ (0 ≤ 3 ∧ 3 < ((A 87).length : Int)) ∧ inI ((rd (A 87) 3) + 1) ∧ (0 ≤ 3 ∧ 3 < ((A 87).length : Int)) ∧ True) (f' := (12, [some (vR 88), some (vI (-3))], [vI (-3)], LAY (u (u (shA A) 87 (wr (A 87) 3 ((rd (A 87) 3) + 1))) 89 (wr (A 87) 3 ((rd (A 87) 3) + 1))) (shF F), 0, 0)) hc105 10 rfl ⟨⟨by omega, by omega⟩, ⟨by omega, by omega⟩, ⟨by omega, by omega⟩, ⟨by omega, by omega⟩, trivial⟩ ?_
          refine R_reti hc105 rfl rfl ?_
          refine R_s (f' := (22, [some (vR 88), some (vI t), some (vI d), some (vI n)], [vI (-3)], LAY (u (u (shA A) 87 (wr (A 87) 3 ((rd (A 87) 3) + 1))) 89 (wr (A 87) 3 ((rd (A 87) 3) + 1))) (shF F), 0, 0)) hc123 0 rfl trivial ?_
          refine R_reti hc123 rfl rfl ?_
          first
            | (exfalso; omega; done)
            | exact ⟨rfl, (u A 87 (wr (A 87) 3 ((rd (A 87) 3) + 1))), F, rfl, rfl, REL_ref hR0 (by decide) (by decide)⟩
            | (have e9 : 6 * t + d = t * 6 + d := (by omega); exact ⟨(by rw [e9]), (u A 87 (wr (A 87) 3 ((rd (A 87) 3) + 1))), F, (by rw [e9]; rfl), rfl, REL_ref hR0 (by decide) (by decide)⟩)
        · refine R_s (P := True) (f' := (17, [some (vR 1), some (vI d)], [vI 1], LAY (shA A) (shF F), 0, 0)) hc98 2 rfl trivial ?_
          refine R_retz hc98 rfl rfl (Or.inr rfl) ?_
          refine R_s (f' := (16, [some (vR 1), some (vI t), some (vI d), some (vI n)], [vI 1], LAY (shA A) (shF F), 0, 0)) hc68 0 rfl trivial ?_
          refine R_if (t := 26) hc68 rfl rfl (fun (_ : ¬ 1 = 0) => ?_) (fun (z : ¬ (¬ 1 = 0)) => absurd (by decide) z)
          refine R_s (P := True) (f' := (28, [some (vR 1), some (vI t), some (vI d), some (vI n)], [vI 1, vI n], LAY (shA A) (shF F), 0, 0)) hc68 2 rfl trivial ?_
          refine R_ic (t := 37) hc68 rfl rfl (fun (c7 : n < 1) => ?_) (fun (c7 : ¬ (n < 1)) => ?_)
          · refine R_s (P := True) (f' := (40, [some (vR 1), some (vI t), some (vI d), some (vI n)], [vI (-7), vR 1], LAY (shA A) (shF F), 0, 0)) hc68 2 rfl trivial ?_
            refine R_cv hc68 rfl rfl ?_ (fun r G h => h)
            refine R_s (P := True) (f' := (3, [some (vR 1), some (vI (-7))], [vI (-2), vI (-7)], LAY (shA A) (shF F), 0, 0)) hc93 2 rfl trivial ?_
            refine R_ic (t := 23) hc93 rfl rfl (fun (z : (-2) < (-7)) => absurd z (by decide)) (fun (_ : ¬ ((-2) < (-7))) => ?_)
            refine R_s (P := True) (f' := (9, [some (vR 1), some (vI (-7))], [vI (-8), vI (-7)], LAY (shA A) (shF F), 0, 0)) hc93 2 rfl trivial ?_
            refine R_ic (t := 23) hc93 rfl rfl (fun (z : (-7) < (-8)) => absurd z (by decide)) (fun (_ : ¬ ((-7) < (-8))) => ?_)
            refine R_s (P := inI 7 ∧ (0 ≤ 7 ∧ 7 < ((A 87).length : Int)) ∧ inI ((rd (A 87) 7) + 1) ∧ (0 ≤ 7 ∧ 7 < ((A 87).length : Int)) ∧ True) (f' := (24, [some (vR 1), some (vI (-7))], [vI (-7)], LAY (u (shA A) 87 (wr (A 87) 7 ((rd (A 87) 7) + 1))) (shF F), 0, 0)) hc93 10 rfl ⟨⟨by omega, by omega⟩, ⟨by omega, by omega⟩, ⟨by omega, by omega⟩, ⟨by omega, by omega⟩, trivial⟩ ?_
            refine R_reti hc93 rfl rfl ?_
            refine R_s (f' := (43, [some (vR 1), some (vI t), some (vI d), some (vI n)], [vI (-7)], LAY (u (shA A) 87 (wr (A 87) 7 ((rd (A 87) 7) + 1))) (shF F), 0, 0)) hc68 0 rfl trivial ?_
            refine R_reti hc68 rfl rfl ⟨⟨_, rfl⟩, ⟨_, _, rfl, rfl⟩, ?_⟩
            refine R_s (P := True) (f' := (2, [some (vR 88), some (vI t), some (vI d), some (vI n)], [vI t, vR 88], LAY (u (shA A) 87 (wr (A 87) 7 ((rd (A 87) 7) + 1))) (shF F), 0, 0)) hc123 2 rfl trivial ?_
            refine R_cv hc123 rfl rfl ?_ (fun r G h => h)
            refine R_s (P := inI ((F 4) - 1) ∧ True) (f' := (8, [some (vR 88), some (vI t)], [vI ((F 4) - 1), vI 0, vI t], LAY (u (shA A) 87 (wr (A 87) 7 ((rd (A 87) 7) + 1))) (shF F), 0, 0)) hc107 6 rfl ⟨⟨by omega, by omega⟩, trivial⟩ ?_
            refine R_cs hc107 rfl rfl ?_ (fun r G h => h)
            refine R_s (P := True) (f' := (2, [some (vI t), some (vI 0), some (vI ((F 4) - 1))], [vI 0, vI t], LAY (u (shA A) 87 (wr (A 87) 7 ((rd (A 87) 7) + 1))) (shF F), 0, 0)) hc104 2 rfl trivial ?_
            refine R_ic (t := 14) hc104 rfl rfl (fun (z : t < 0) => absurd z (by omega)) (fun (_ : ¬ (t < 0)) => ?_)
            refine R_s (P := True) (f' := (7, [some (vI t), some (vI 0), some (vI ((F 4) - 1))], [vI ((F 4) - 1), vI t], LAY (u (shA A) 87 (wr (A 87) 7 ((rd (A 87) 7) + 1))) (shF F), 0, 0)) hc104 2 rfl trivial ?_
            refine R_ic (t := 14) hc104 rfl rfl (fun (z : (F 4) - 1 < t) => absurd z (by omega)) (fun (_ : ¬ ((F 4) - 1 < t)) => ?_)
            refine R_s (P := True) (f' := (15, [some (vI t), some (vI 0), some (vI ((F 4) - 1))], [vI 1], LAY (u (shA A) 87 (wr (A 87) 7 ((rd (A 87) 7) + 1))) (shF F), 0, 0)) hc104 2 rfl trivial ?_
            refine R_retz hc104 rfl rfl (Or.inr rfl) ?_
            refine R_s (f' := (11, [some (vR 88), some (vI t)], [vI 1], LAY (u (shA A) 87 (wr (A 87) 7 ((rd (A 87) 7) + 1))) (shF F), 0, 0)) hc107 0 rfl trivial ?_
            refine R_retz hc107 rfl rfl (Or.inr rfl) ?_
            refine R_s (f' := (5, [some (vR 88), some (vI t), some (vI d), some (vI n)], [vI 1], LAY (u (shA A) 87 (wr (A 87) 7 ((rd (A 87) 7) + 1))) (shF F), 0, 0)) hc123 0 rfl trivial ?_
            refine R_if (t := 16) hc123 rfl rfl (fun (z : 1 = 0) => absurd z (by decide)) (fun (_ : ¬ (1 = 0)) => ?_)
            refine R_s (P := True) (f' := (10, [some (vR 88), some (vI t), some (vI d), some (vI n)], [vI d, vR 88], LAY (u (shA A) 87 (wr (A 87) 7 ((rd (A 87) 7) + 1))) (shF F), 0, 0)) hc123 2 rfl trivial ?_
            refine R_cv hc123 rfl rfl ?_ (fun r G h => h)
            refine R_s (P := inI ((F 0) - 1) ∧ True) (f' := (8, [some (vR 88), some (vI d)], [vI ((F 0) - 1), vI 0, vI d], LAY (u (shA A) 87 (wr (A 87) 7 ((rd (A 87) 7) + 1))) (shF F), 0, 0)) hc108 6 rfl ⟨⟨by omega, by omega⟩, trivial⟩ ?_
            refine R_cs hc108 rfl rfl ?_ (fun r G h => h)
            refine R_s (P := True) (f' := (2, [some (vI d), some (vI 0), some (vI ((F 0) - 1))], [vI 0, vI d], LAY (u (shA A) 87 (wr (A 87) 7 ((rd (A 87) 7) + 1))) (shF F), 0, 0)) hc104 2 rfl trivial ?_
            refine R_ic (t := 14) hc104 rfl rfl (fun (z : d < 0) => absurd z (by omega)) (fun (_ : ¬ (d < 0)) => ?_)
            refine R_s (P := True) (f' := (7, [some (vI d), some (vI 0), some (vI ((F 0) - 1))], [vI ((F 0) - 1), vI d], LAY (u (shA A) 87 (wr (A 87) 7 ((rd (A 87) 7) + 1))) (shF F), 0, 0)) hc104 2 rfl trivial ?_
            refine R_ic (t := 14) hc104 rfl rfl (fun (z : (F 0) - 1 < d) => absurd z (by omega)) (fun (_ : ¬ ((F 0) - 1 < d)) => ?_)
            refine R_s (P := True) (f' := (15, [some (vI d), some (vI 0), some (vI ((F 0) - 1))], [vI 1], LAY (u (shA A) 87 (wr (A 87) 7 ((rd (A 87) 7) + 1))) (shF F), 0, 0)) hc104 2 rfl trivial ?_
            refine R_retz hc104 rfl rfl (Or.inr rfl) ?_
            refine R_s (f' := (11, [some (vR 88), some (vI d)], [vI 1], LAY (u (shA A) 87 (wr (A 87) 7 ((rd (A 87) 7) + 1))) (shF F), 0, 0)) hc108 0 rfl trivial ?_
            refine R_retz hc108 rfl rfl (Or.inr rfl) ?_
            refine R_s (f' := (13, [some (vR 88), some (vI t), some (vI d), some (vI n)], [vI 1], LAY (u (shA A) 87 (wr (A 87) 7 ((rd (A 87) 7) + 1))) (shF F), 0, 0)) hc123 0 rfl trivial ?_
            refine R_if (t := 23) hc123 rfl rfl (fun (_ : ¬ 1 = 0) => ?_) (fun (z : ¬ (¬ 1 = 0)) => absurd (by decide) z)
            refine R_s (P := True) (f' := (27, [some (vR 88), some (vI t), some (vI d), some (vI n)], [vI 12, vI 1, vI n], LAY (u (shA A) 87 (wr (A 87) 7 ((rd (A 87) 7) + 1))) (shF F), 0, 0)) hc123 3 rfl trivial ?_
            refine R_cs hc123 rfl rfl ?_ (fun r G h => h)
            refine R_s (P := True) (f' := (2, [some (vI n), some (vI 1), some (vI 12)], [vI 1, vI n], LAY (u (shA A) 87 (wr (A 87) 7 ((rd (A 87) 7) + 1))) (shF F), 0, 0)) hc104 2 rfl trivial ?_
            refine R_ic (t := 14) hc104 rfl rfl (fun (_ : n < 1) => ?_) (fun (z : ¬ (n < 1)) => absurd (show n < 1 by omega) z)
            refine R_s (P := True) (f' := (15, [some (vI n), some (vI 1), some (vI 12)], [vI 0], LAY (u (shA A) 87 (wr (A 87) 7 ((rd (A 87) 7) + 1))) (shF F), 0, 0)) hc104 1 rfl trivial ?_
            refine R_retz hc104 rfl rfl (Or.inl rfl) ?_
            refine R_s (f' := (30, [some (vR 88), some (vI t), some (vI d), some (vI n)], [vI 0], LAY (u (shA A) 87 (wr (A 87) 7 ((rd (A 87) 7) + 1))) (shF F), 0, 0)) hc123 0 rfl trivial ?_
            refine R_if (t := 40) hc123 rfl rfl (fun (z : ¬ 0 = 0) => absurd z (by decide)) (fun (_ : ¬ (¬ 0 = 0)) => ?_)
            refine R_s (P := True) (f' := (36, [some (vR 88), some (vI t), some (vI d), some (vI n)], [vI (-7), vR 88], LAY (u (shA A) 87 (wr (A 87) 7 ((rd (A 87) 7) + 1))) (shF F), 0, 0)) hc123 2 rfl trivial ?_
            refine R_cv hc123 rfl rfl ?_ (fun r G h => h)
            refine R_s (P := inI 7 ∧ (0 ≤ 7 ∧ 7 < ((A 87).length : Int)) ∧ inI ((rd (A 87) 7) + 1) ∧ (0 ≤ 7 ∧ 7 < ((A 87).length : Int)) ∧ True) (f' := (12, [some (vR 88), some (vI (-7))], [vI (-7)], LAY (u (u (shA A) 87 (wr (A 87) 7 ((rd (A 87) 7) + 1))) 89 (wr (A 87) 7 ((rd (A 87) 7) + 1))) (shF F), 0, 0)) hc105 10 rfl ⟨⟨by omega, by omega⟩, ⟨by omega, by omega⟩, ⟨by omega, by omega⟩, ⟨by omega, by omega⟩, trivial⟩ ?_
            refine R_reti hc105 rfl rfl ?_
            refine R_s (f' := (39, [some (vR 88), some (vI t), some (vI d), some (vI n)], [vI (-7)], LAY (u (u (shA A) 87 (wr (A 87) 7 ((rd (A 87) 7) + 1))) 89 (wr (A 87) 7 ((rd (A 87) 7) + 1))) (shF F), 0, 0)) hc123 0 rfl trivial ?_
            refine R_reti hc123 rfl rfl ?_
            first
              | (exfalso; omega; done)
              | exact ⟨rfl, (u A 87 (wr (A 87) 7 ((rd (A 87) 7) + 1))), F, rfl, rfl, REL_ref hR0 (by decide) (by decide)⟩
              | (have e9 : 6 * t + d = t * 6 + d := (by omega); exact ⟨(by rw [e9]), (u A 87 (wr (A 87) 7 ((rd (A 87) 7) + 1))), F, (by rw [e9]; rfl), rfl, REL_ref hR0 (by decide) (by decide)⟩)
          · refine R_s (P := True) (f' := (34, [some (vR 1), some (vI t), some (vI d), some (vI n)], [vI 12, vI n], LAY (shA A) (shF F), 0, 0)) hc68 2 rfl trivial ?_
            refine R_ic (t := 44) hc68 rfl rfl (fun (c10 : n ≤ 12) => ?_) (fun (c10 : ¬ (n ≤ 12)) => ?_)
            · refine R_s (P := True) (f' := (50, [some (vR 1), some (vI t), some (vI d), some (vI n)], [vI t, vR 12, vI n], LAY (shA A) (shF F), 0, 0)) hc68 4 rfl trivial ?_
              refine R_cv hc68 rfl rfl ?_ (fun r G h => h)
              refine R_s (P := True) (f' := (8, [some (vR 12), some (vI t), some (vI 12), some (vI 0)], [vI 6, vI 0], LAY (shA A) (shF F), 0, 0)) hc54 6 rfl trivial ?_
              refine R_ic (t := 31) hc54 rfl rfl (fun (z : 6 ≤ 0) => absurd z (by decide)) (fun (_ : ¬ (6 ≤ 0)) => ?_)
              refine R_s (P := inI (t * 6) ∧ inI ((t * 6) + 0) ∧ (0 ≤ (t * 6) + 0 ∧ (t * 6) + 0 < ((A 16).length : Int)) ∧ inI (12 - (rd (A 16) ((t * 6) + 0))) ∧ inI 1 ∧ True) (f' := (8, [some (vR 12), some (vI t), some (vI (12 - (rd (A 16) ((t * 6) + 0)))), some (vI 1)], [vI 6, vI 1], LAY (shA A) (shF F), 0, 0)) hc54 15 rfl ⟨⟨by omega, by omega⟩, ⟨by omega, by omega⟩, ⟨by omega, by omega⟩, ⟨by omega, by omega⟩, ⟨by omega, by omega⟩, trivial⟩ ?_
              refine R_ic (t := 31) hc54 rfl rfl (fun (z : 6 ≤ 1) => absurd z (by decide)) (fun (_ : ¬ (6 ≤ 1)) => ?_)
              refine R_s (P := inI (t * 6) ∧ inI ((t * 6) + 1) ∧ (0 ≤ (t * 6) + 1 ∧ (t * 6) + 1 < ((A 16).length : Int)) ∧ inI ((12 - (rd (A 16) ((t * 6) + 0))) - (rd (A 16) ((t * 6) + 1))) ∧ inI 2 ∧ True) (f' := (8, [some (vR 12), some (vI t), some (vI ((12 - (rd (A 16) ((t * 6) + 0))) - (rd (A 16) ((t * 6) + 1)))), some (vI 2)], [vI 6, vI 2], LAY (shA A) (shF F), 0, 0)) hc54 15 rfl ⟨⟨by omega, by omega⟩, ⟨by omega, by omega⟩, ⟨by omega, by omega⟩, ⟨by omega, by omega⟩, ⟨by omega, by omega⟩, trivial⟩ ?_
              refine R_ic (t := 31) hc54 rfl rfl (fun (z : 6 ≤ 2) => absurd z (by decide)) (fun (_ : ¬ (6 ≤ 2)) => ?_)
              refine R_s (P := inI (t * 6) ∧ inI ((t * 6) + 2) ∧ (0 ≤ (t * 6) + 2 ∧ (t * 6) + 2 < ((A 16).length : Int)) ∧ inI (((12 - (rd (A 16) ((t * 6) + 0))) - (rd (A 16) ((t * 6) + 1))) - (rd (A 16) ((t * 6) + 2))) ∧ inI 3 ∧ True) (f' := (8, [some (vR 12), some (vI t), some (vI (((12 - (rd (A 16) ((t * 6) + 0))) - (rd (A 16) ((t * 6) + 1))) - (rd (A 16) ((t * 6) + 2)))), some (vI 3)], [vI 6, vI 3], LAY (shA A) (shF F), 0, 0)) hc54 15 rfl ⟨⟨by omega, by omega⟩, ⟨by omega, by omega⟩, ⟨by omega, by omega⟩, ⟨by omega, by omega⟩, ⟨by omega, by omega⟩, trivial⟩ ?_
              refine R_ic (t := 31) hc54 rfl rfl (fun (z : 6 ≤ 3) => absurd z (by decide)) (fun (_ : ¬ (6 ≤ 3)) => ?_)
              refine R_s (P := inI (t * 6) ∧ inI ((t * 6) + 3) ∧ (0 ≤ (t * 6) + 3 ∧ (t * 6) + 3 < ((A 16).length : Int)) ∧ inI ((((12 - (rd (A 16) ((t * 6) + 0))) - (rd (A 16) ((t * 6) + 1))) - (rd (A 16) ((t * 6) + 2))) - (rd (A 16) ((t * 6) + 3))) ∧ inI 4 ∧ True) (f' := (8, [some (vR 12), some (vI t), some (vI ((((12 - (rd (A 16) ((t * 6) + 0))) - (rd (A 16) ((t * 6) + 1))) - (rd (A 16) ((t * 6) + 2))) - (rd (A 16) ((t * 6) + 3)))), some (vI 4)], [vI 6, vI 4], LAY (shA A) (shF F), 0, 0)) hc54 15 rfl ⟨⟨by omega, by omega⟩, ⟨by omega, by omega⟩, ⟨by omega, by omega⟩, ⟨by omega, by omega⟩, ⟨by omega, by omega⟩, trivial⟩ ?_
              refine R_ic (t := 31) hc54 rfl rfl (fun (z : 6 ≤ 4) => absurd z (by decide)) (fun (_ : ¬ (6 ≤ 4)) => ?_)
              refine R_s (P := inI (t * 6) ∧ inI ((t * 6) + 4) ∧ (0 ≤ (t * 6) + 4 ∧ (t * 6) + 4 < ((A 16).length : Int)) ∧ inI (((((12 - (rd (A 16) ((t * 6) + 0))) - (rd (A 16) ((t * 6) + 1))) - (rd (A 16) ((t * 6) + 2))) - (rd (A 16) ((t * 6) + 3))) - (rd (A 16) ((t * 6) + 4))) ∧ inI 5 ∧ True) (f' := (8, [some (vR 12), some (vI t), some (vI (((((12 - (rd (A 16) ((t * 6) + 0))) - (rd (A 16) ((t * 6) + 1))) - (rd (A 16) ((t * 6) + 2))) - (rd (A 16) ((t * 6) + 3))) - (rd (A 16) ((t * 6) + 4)))), some (vI 5)], [vI 6, vI 5], LAY (shA A) (shF F), 0, 0)) hc54 15 rfl ⟨⟨by omega, by omega⟩, ⟨by omega, by omega⟩, ⟨by omega, by omega⟩, ⟨by omega, by omega⟩, ⟨by omega, by omega⟩, trivial⟩ ?_
              refine R_ic (t := 31) hc54 rfl rfl (fun (z : 6 ≤ 5) => absurd z (by decide)) (fun (_ : ¬ (6 ≤ 5)) => ?_)
              refine R_s (P := inI (t * 6) ∧ inI ((t * 6) + 5) ∧ (0 ≤ (t * 6) + 5 ∧ (t * 6) + 5 < ((A 16).length : Int)) ∧ inI ((((((12 - (rd (A 16) ((t * 6) + 0))) - (rd (A 16) ((t * 6) + 1))) - (rd (A 16) ((t * 6) + 2))) - (rd (A 16) ((t * 6) + 3))) - (rd (A 16) ((t * 6) + 4))) - (rd (A 16) ((t * 6) + 5))) ∧ inI 6 ∧ True) (f' := (8, [some (vR 12), some (vI t), some (vI ((((((12 - (rd (A 16) ((t * 6) + 0))) - (rd (A 16) ((t * 6) + 1))) - (rd (A 16) ((t * 6) + 2))) - (rd (A 16) ((t * 6) + 3))) - (rd (A 16) ((t * 6) + 4))) - (rd (A 16) ((t * 6) + 5)))), some (vI 6)], [vI 6, vI 6], LAY (shA A) (shF F), 0, 0)) hc54 15 rfl ⟨⟨by omega, by omega⟩, ⟨by omega, by omega⟩, ⟨by omega, by omega⟩, ⟨by omega, by omega⟩, ⟨by omega, by omega⟩, trivial⟩ ?_
              refine R_ic (t := 31) hc54 rfl rfl (fun (_ : 6 ≤ 6) => ?_) (fun (z : ¬ (6 ≤ 6)) => absurd (by decide) z)
              refine R_s (P := True) (f' := (32, [some (vR 12), some (vI t), some (vI ((((((12 - (rd (A 16) ((t * 6) + 0))) - (rd (A 16) ((t * 6) + 1))) - (rd (A 16) ((t * 6) + 2))) - (rd (A 16) ((t * 6) + 3))) - (rd (A 16) ((t * 6) + 4))) - (rd (A 16) ((t * 6) + 5)))), some (vI 6)], [vI ((((((12 - (rd (A 16) ((t * 6) + 0))) - (rd (A 16) ((t * 6) + 1))) - (rd (A 16) ((t * 6) + 2))) - (rd (A 16) ((t * 6) + 3))) - (rd (A 16) ((t * 6) + 4))) - (rd (A 16) ((t * 6) + 5)))], LAY (shA A) (shF F), 0, 0)) hc54 1 rfl trivial ?_
              refine R_reti hc54 rfl rfl ?_
              refine R_s (f' := (53, [some (vR 1), some (vI t), some (vI d), some (vI n)], [vI ((((((12 - (rd (A 16) ((t * 6) + 0))) - (rd (A 16) ((t * 6) + 1))) - (rd (A 16) ((t * 6) + 2))) - (rd (A 16) ((t * 6) + 3))) - (rd (A 16) ((t * 6) + 4))) - (rd (A 16) ((t * 6) + 5))), vI n], LAY (shA A) (shF F), 0, 0)) hc68 0 rfl trivial ?_
              refine R_ic (t := 63) hc68 rfl rfl (fun (c18 : n ≤ (((((12 - (rd (A 16) ((t * 6) + 0))) - (rd (A 16) ((t * 6) + 1))) - (rd (A 16) ((t * 6) + 2))) - (rd (A 16) ((t * 6) + 3))) - (rd (A 16) ((t * 6) + 4))) - (rd (A 16) ((t * 6) + 5))) => ?_) (fun (c18 : ¬ (n ≤ (((((12 - (rd (A 16) ((t * 6) + 0))) - (rd (A 16) ((t * 6) + 1))) - (rd (A 16) ((t * 6) + 2))) - (rd (A 16) ((t * 6) + 3))) - (rd (A 16) ((t * 6) + 4))) - (rd (A 16) ((t * 6) + 5)))) => ?_)
              · refine R_s (P := True) (f' := (70, [some (vR 1), some (vI t), some (vI d), some (vI n)], [vI n, vI d, vI t, vR 12], LAY (shA A) (shF F), 0, 0)) hc68 5 rfl trivial ?_
                refine R_cv hc68 rfl rfl ?_ (fun r G h => h)
                refine R_s (P := inI (t * 6) ∧ inI ((t * 6) + d) ∧ (0 ≤ (t * 6) + d ∧ (t * 6) + d < ((A 16).length : Int)) ∧ inI ((rd (A 16) ((t * 6) + d)) + n) ∧ (0 ≤ (t * 6) + d ∧ (t * 6) + d < ((A 16).length : Int)) ∧ (0 ≤ (t * 6) + d ∧ (t * 6) + d < ((wr (A 16) ((t * 6) + d) ((rd (A 16) ((t * 6) + d)) + n)).length : Int)) ∧ True) (f' := (26, [some (vR 12), some (vI t), some (vI d), some (vI n), some (vI ((t * 6) + d))], [vI (rd (wr (A 16) ((t * 6) + d) ((rd (A 16) ((t * 6) + d)) + n)) ((t * 6) + d))], LAY (u (shA A) 16 (wr (A 16) ((t * 6) + d) ((rd (A 16) ((t * 6) + d)) + n))) (shF F), 0, 0)) hc55 18 rfl ⟨⟨by omega, by omega⟩, ⟨by omega, by omega⟩, ⟨by omega, by omega⟩, ⟨by omega, by omega⟩, ⟨by omega, by omega⟩, ⟨by omega, by simp only [wr_len]; omega⟩, trivial⟩ ?_
                refine R_reti hc55 rfl rfl ?_
                refine R_s (f' := (73, [some (vR 1), some (vI t), some (vI d), some (vI n)], [vI (rd (wr (A 16) ((t * 6) + d) ((rd (A 16) ((t * 6) + d)) + n)) ((t * 6) + d))], LAY (u (shA A) 16 (wr (A 16) ((t * 6) + d) ((rd (A 16) ((t * 6) + d)) + n))) (shF F), 0, 0)) hc68 0 rfl trivial ?_
                refine R_reti hc68 rfl rfl ⟨⟨_, rfl⟩, ⟨_, _, rfl, rfl⟩, ?_⟩
                refine R_s (P := True) (f' := (2, [some (vR 88), some (vI t), some (vI d), some (vI n)], [vI t, vR 88], LAY (u (shA A) 16 (wr (A 16) ((t * 6) + d) ((rd (A 16) ((t * 6) + d)) + n))) (shF F), 0, 0)) hc123 2 rfl trivial ?_
                refine R_cv hc123 rfl rfl ?_ (fun r G h => h)
                refine R_s (P := inI ((F 4) - 1) ∧ True) (f' := (8, [some (vR 88), some (vI t)], [vI ((F 4) - 1), vI 0, vI t], LAY (u (shA A) 16 (wr (A 16) ((t * 6) + d) ((rd (A 16) ((t * 6) + d)) + n))) (shF F), 0, 0)) hc107 6 rfl ⟨⟨by omega, by omega⟩, trivial⟩ ?_
                refine R_cs hc107 rfl rfl ?_ (fun r G h => h)
                refine R_s (P := True) (f' := (2, [some (vI t), some (vI 0), some (vI ((F 4) - 1))], [vI 0, vI t], LAY (u (shA A) 16 (wr (A 16) ((t * 6) + d) ((rd (A 16) ((t * 6) + d)) + n))) (shF F), 0, 0)) hc104 2 rfl trivial ?_
                refine R_ic (t := 14) hc104 rfl rfl (fun (z : t < 0) => absurd z (by omega)) (fun (_ : ¬ (t < 0)) => ?_)
                refine R_s (P := True) (f' := (7, [some (vI t), some (vI 0), some (vI ((F 4) - 1))], [vI ((F 4) - 1), vI t], LAY (u (shA A) 16 (wr (A 16) ((t * 6) + d) ((rd (A 16) ((t * 6) + d)) + n))) (shF F), 0, 0)) hc104 2 rfl trivial ?_
                refine R_ic (t := 14) hc104 rfl rfl (fun (z : (F 4) - 1 < t) => absurd z (by omega)) (fun (_ : ¬ ((F 4) - 1 < t)) => ?_)
                refine R_s (P := True) (f' := (15, [some (vI t), some (vI 0), some (vI ((F 4) - 1))], [vI 1], LAY (u (shA A) 16 (wr (A 16) ((t * 6) + d) ((rd (A 16) ((t * 6) + d)) + n))) (shF F), 0, 0)) hc104 2 rfl trivial ?_
                refine R_retz hc104 rfl rfl (Or.inr rfl) ?_
                refine R_s (f' := (11, [some (vR 88), some (vI t)], [vI 1], LAY (u (shA A) 16 (wr (A 16) ((t * 6) + d) ((rd (A 16) ((t * 6) + d)) + n))) (shF F), 0, 0)) hc107 0 rfl trivial ?_
                refine R_retz hc107 rfl rfl (Or.inr rfl) ?_
                refine R_s (f' := (5, [some (vR 88), some (vI t), some (vI d), some (vI n)], [vI 1], LAY (u (shA A) 16 (wr (A 16) ((t * 6) + d) ((rd (A 16) ((t * 6) + d)) + n))) (shF F), 0, 0)) hc123 0 rfl trivial ?_
                refine R_if (t := 16) hc123 rfl rfl (fun (z : 1 = 0) => absurd z (by decide)) (fun (_ : ¬ (1 = 0)) => ?_)
                refine R_s (P := True) (f' := (10, [some (vR 88), some (vI t), some (vI d), some (vI n)], [vI d, vR 88], LAY (u (shA A) 16 (wr (A 16) ((t * 6) + d) ((rd (A 16) ((t * 6) + d)) + n))) (shF F), 0, 0)) hc123 2 rfl trivial ?_
                refine R_cv hc123 rfl rfl ?_ (fun r G h => h)
                refine R_s (P := inI ((F 0) - 1) ∧ True) (f' := (8, [some (vR 88), some (vI d)], [vI ((F 0) - 1), vI 0, vI d], LAY (u (shA A) 16 (wr (A 16) ((t * 6) + d) ((rd (A 16) ((t * 6) + d)) + n))) (shF F), 0, 0)) hc108 6 rfl ⟨⟨by omega, by omega⟩, trivial⟩ ?_
                refine R_cs hc108 rfl rfl ?_ (fun r G h => h)
                refine R_s (P := True) (f' := (2, [some (vI d), some (vI 0), some (vI ((F 0) - 1))], [vI 0, vI d], LAY (u (shA A) 16 (wr (A 16) ((t * 6) + d) ((rd (A 16) ((t * 6) + d)) + n))) (shF F), 0, 0)) hc104 2 rfl trivial ?_
                refine R_ic (t := 14) hc104 rfl rfl (fun (z : d < 0) => absurd z (by omega)) (fun (_ : ¬ (d < 0)) => ?_)
                refine R_s (P := True) (f' := (7, [some (vI d), some (vI 0), some (vI ((F 0) - 1))], [vI ((F 0) - 1), vI d], LAY (u (shA A) 16 (wr (A 16) ((t * 6) + d) ((rd (A 16) ((t * 6) + d)) + n))) (shF F), 0, 0)) hc104 2 rfl trivial ?_
                refine R_ic (t := 14) hc104 rfl rfl (fun (z : (F 0) - 1 < d) => absurd z (by omega)) (fun (_ : ¬ ((F 0) - 1 < d)) => ?_)
                refine R_s (P := True) (f' := (15, [some (vI d), some (vI 0), some (vI ((F 0) - 1))], [vI 1], LAY (u (shA A) 16 (wr (A 16) ((t * 6) + d) ((rd (A 16) ((t * 6) + d)) + n))) (shF F), 0, 0)) hc104 2 rfl trivial ?_
                refine R_retz hc104 rfl rfl (Or.inr rfl) ?_
                refine R_s (f' := (11, [some (vR 88), some (vI d)], [vI 1], LAY (u (shA A) 16 (wr (A 16) ((t * 6) + d) ((rd (A 16) ((t * 6) + d)) + n))) (shF F), 0, 0)) hc108 0 rfl trivial ?_
                refine R_retz hc108 rfl rfl (Or.inr rfl) ?_
                refine R_s (f' := (13, [some (vR 88), some (vI t), some (vI d), some (vI n)], [vI 1], LAY (u (shA A) 16 (wr (A 16) ((t * 6) + d) ((rd (A 16) ((t * 6) + d)) + n))) (shF F), 0, 0)) hc123 0 rfl trivial ?_
                refine R_if (t := 23) hc123 rfl rfl (fun (_ : ¬ 1 = 0) => ?_) (fun (z : ¬ (¬ 1 = 0)) => absurd (by decide) z)
                refine R_s (P := True) (f' := (27, [some (vR 88), some (vI t), some (vI d), some (vI n)], [vI 12, vI 1, vI n], LAY (u (shA A) 16 (wr (A 16) ((t * 6) + d) ((rd (A 16) ((t * 6) + d)) + n))) (shF F), 0, 0)) hc123 3 rfl trivial ?_
                refine R_cs hc123 rfl rfl ?_ (fun r G h => h)
                refine R_s (P := True) (f' := (2, [some (vI n), some (vI 1), some (vI 12)], [vI 1, vI n], LAY (u (shA A) 16 (wr (A 16) ((t * 6) + d) ((rd (A 16) ((t * 6) + d)) + n))) (shF F), 0, 0)) hc104 2 rfl trivial ?_
                refine R_ic (t := 14) hc104 rfl rfl (fun (z : n < 1) => absurd z (by omega)) (fun (_ : ¬ (n < 1)) => ?_)
                refine R_s (P := True) (f' := (7, [some (vI n), some (vI 1), some (vI 12)], [vI 12, vI n], LAY (u (shA A) 16 (wr (A 16) ((t * 6) + d) ((rd (A 16) ((t * 6) + d)) + n))) (shF F), 0, 0)) hc104 2 rfl trivial ?_
                refine R_ic (t := 14) hc104 rfl rfl (fun (z : 12 < n) => absurd z (by omega)) (fun (_ : ¬ (12 < n)) => ?_)
                refine R_s (P := True) (f' := (15, [some (vI n), some (vI 1), some (vI 12)], [vI 1], LAY (u (shA A) 16 (wr (A 16) ((t * 6) + d) ((rd (A 16) ((t * 6) + d)) + n))) (shF F), 0, 0)) hc104 2 rfl trivial ?_
                refine R_retz hc104 rfl rfl (Or.inr rfl) ?_
                refine R_s (f' := (30, [some (vR 88), some (vI t), some (vI d), some (vI n)], [vI 1], LAY (u (shA A) 16 (wr (A 16) ((t * 6) + d) ((rd (A 16) ((t * 6) + d)) + n))) (shF F), 0, 0)) hc123 0 rfl trivial ?_
                refine R_if (t := 40) hc123 rfl rfl (fun (_ : ¬ 1 = 0) => ?_) (fun (z : ¬ (¬ 1 = 0)) => absurd (by decide) z)
                refine R_s (P := True) (f' := (43, [some (vR 88), some (vI t), some (vI d), some (vI n)], [vI t, vR 88, vI n], LAY (u (shA A) 16 (wr (A 16) ((t * 6) + d) ((rd (A 16) ((t * 6) + d)) + n))) (shF F), 0, 0)) hc123 3 rfl trivial ?_
                refine R_cv hc123 rfl rfl ?_ (fun r G h => h)
                refine R_s (P := True) (f' := (8, [some (vR 88), some (vI t), some (vI 12), some (vI 0)], [vI 6, vI 0], LAY (u (shA A) 16 (wr (A 16) ((t * 6) + d) ((rd (A 16) ((t * 6) + d)) + n))) (shF F), 0, 0)) hc122 6 rfl trivial ?_
                refine R_ic (t := 31) hc122 rfl rfl (fun (z : 6 ≤ 0) => absurd z (by decide)) (fun (_ : ¬ (6 ≤ 0)) => ?_)
                refine R_s (P := inI (6 * t) ∧ inI ((6 * t) + 0) ∧ (0 ≤ (6 * t) + 0 ∧ (6 * t) + 0 < ((A 16).length : Int)) ∧ inI (12 - (rd (A 16) ((6 * t) + 0))) ∧ inI 1 ∧ True) (f' := (8, [some (vR 88), some (vI t), some (vI (12 - (rd (A 16) ((6 * t) + 0)))), some (vI 1)], [vI 6, vI 1], LAY (u (shA A) 16 (wr (A 16) ((t * 6) + d) ((rd (A 16) ((t * 6) + d)) + n))) (shF F), 0, 0)) hc122 15 rfl ⟨⟨by omega, by omega⟩, ⟨by omega, by omega⟩, ⟨by omega, by omega⟩, ⟨by omega, by omega⟩, ⟨by omega, by omega⟩, trivial⟩ ?_
                refine R_ic (t := 31) hc122 rfl rfl (fun (z : 6 ≤ 1) => absurd z (by decide)) (fun (_ : ¬ (6 ≤ 1)) => ?_)
                refine R_s (P := inI (6 * t) ∧ inI ((6 * t) + 1) ∧ (0 ≤ (6 * t) + 1 ∧ (6 * t) + 1 < ((A 16).length : Int)) ∧ inI ((12 - (rd (A 16) ((6 * t) + 0))) - (rd (A 16) ((6 * t) + 1))) ∧ inI 2 ∧ True) (f' := (8, [some (vR 88), some (vI t), some (vI ((12 - (rd (A 16) ((6 * t) + 0))) - (rd (A 16) ((6 * t) + 1)))), some (vI 2)], [vI 6, vI 2], LAY (u (shA A) 16 (wr (A 16) ((t * 6) + d) ((rd (A 16) ((t * 6) + d)) + n))) (shF F), 0, 0)) hc122 15 rfl ⟨⟨by omega, by omega⟩, ⟨by omega, by omega⟩, ⟨by omega, by omega⟩, ⟨by omega, by omega⟩, ⟨by omega, by omega⟩, trivial⟩ ?_
                refine R_ic (t := 31) hc122 rfl rfl (fun (z : 6 ≤ 2) => absurd z (by decide)) (fun (_ : ¬ (6 ≤ 2)) => ?_)
                refine R_s (P := inI (6 * t) ∧ inI ((6 * t) + 2) ∧ (0 ≤ (6 * t) + 2 ∧ (6 * t) + 2 < ((A 16).length : Int)) ∧ inI (((12 - (rd (A 16) ((6 * t) + 0))) - (rd (A 16) ((6 * t) + 1))) - (rd (A 16) ((6 * t) + 2))) ∧ inI 3 ∧ True) (f' := (8, [some (vR 88), some (vI t), some (vI (((12 - (rd (A 16) ((6 * t) + 0))) - (rd (A 16) ((6 * t) + 1))) - (rd (A 16) ((6 * t) + 2)))), some (vI 3)], [vI 6, vI 3], LAY (u (shA A) 16 (wr (A 16) ((t * 6) + d) ((rd (A 16) ((t * 6) + d)) + n))) (shF F), 0, 0)) hc122 15 rfl ⟨⟨by omega, by omega⟩, ⟨by omega, by omega⟩, ⟨by omega, by omega⟩, ⟨by omega, by omega⟩, ⟨by omega, by omega⟩, trivial⟩ ?_
                refine R_ic (t := 31) hc122 rfl rfl (fun (z : 6 ≤ 3) => absurd z (by decide)) (fun (_ : ¬ (6 ≤ 3)) => ?_)
                refine R_s (P := inI (6 * t) ∧ inI ((6 * t) + 3) ∧ (0 ≤ (6 * t) + 3 ∧ (6 * t) + 3 < ((A 16).length : Int)) ∧ inI ((((12 - (rd (A 16) ((6 * t) + 0))) - (rd (A 16) ((6 * t) + 1))) - (rd (A 16) ((6 * t) + 2))) - (rd (A 16) ((6 * t) + 3))) ∧ inI 4 ∧ True) (f' := (8, [some (vR 88), some (vI t), some (vI ((((12 - (rd (A 16) ((6 * t) + 0))) - (rd (A 16) ((6 * t) + 1))) - (rd (A 16) ((6 * t) + 2))) - (rd (A 16) ((6 * t) + 3)))), some (vI 4)], [vI 6, vI 4], LAY (u (shA A) 16 (wr (A 16) ((t * 6) + d) ((rd (A 16) ((t * 6) + d)) + n))) (shF F), 0, 0)) hc122 15 rfl ⟨⟨by omega, by omega⟩, ⟨by omega, by omega⟩, ⟨by omega, by omega⟩, ⟨by omega, by omega⟩, ⟨by omega, by omega⟩, trivial⟩ ?_
                refine R_ic (t := 31) hc122 rfl rfl (fun (z : 6 ≤ 4) => absurd z (by decide)) (fun (_ : ¬ (6 ≤ 4)) => ?_)
                refine R_s (P := inI (6 * t) ∧ inI ((6 * t) + 4) ∧ (0 ≤ (6 * t) + 4 ∧ (6 * t) + 4 < ((A 16).length : Int)) ∧ inI (((((12 - (rd (A 16) ((6 * t) + 0))) - (rd (A 16) ((6 * t) + 1))) - (rd (A 16) ((6 * t) + 2))) - (rd (A 16) ((6 * t) + 3))) - (rd (A 16) ((6 * t) + 4))) ∧ inI 5 ∧ True) (f' := (8, [some (vR 88), some (vI t), some (vI (((((12 - (rd (A 16) ((6 * t) + 0))) - (rd (A 16) ((6 * t) + 1))) - (rd (A 16) ((6 * t) + 2))) - (rd (A 16) ((6 * t) + 3))) - (rd (A 16) ((6 * t) + 4)))), some (vI 5)], [vI 6, vI 5], LAY (u (shA A) 16 (wr (A 16) ((t * 6) + d) ((rd (A 16) ((t * 6) + d)) + n))) (shF F), 0, 0)) hc122 15 rfl ⟨⟨by omega, by omega⟩, ⟨by omega, by omega⟩, ⟨by omega, by omega⟩, ⟨by omega, by omega⟩, ⟨by omega, by omega⟩, trivial⟩ ?_
                refine R_ic (t := 31) hc122 rfl rfl (fun (z : 6 ≤ 5) => absurd z (by decide)) (fun (_ : ¬ (6 ≤ 5)) => ?_)
                refine R_s (P := inI (6 * t) ∧ inI ((6 * t) + 5) ∧ (0 ≤ (6 * t) + 5 ∧ (6 * t) + 5 < ((A 16).length : Int)) ∧ inI ((((((12 - (rd (A 16) ((6 * t) + 0))) - (rd (A 16) ((6 * t) + 1))) - (rd (A 16) ((6 * t) + 2))) - (rd (A 16) ((6 * t) + 3))) - (rd (A 16) ((6 * t) + 4))) - (rd (A 16) ((6 * t) + 5))) ∧ inI 6 ∧ True) (f' := (8, [some (vR 88), some (vI t), some (vI ((((((12 - (rd (A 16) ((6 * t) + 0))) - (rd (A 16) ((6 * t) + 1))) - (rd (A 16) ((6 * t) + 2))) - (rd (A 16) ((6 * t) + 3))) - (rd (A 16) ((6 * t) + 4))) - (rd (A 16) ((6 * t) + 5)))), some (vI 6)], [vI 6, vI 6], LAY (u (shA A) 16 (wr (A 16) ((t * 6) + d) ((rd (A 16) ((t * 6) + d)) + n))) (shF F), 0, 0)) hc122 15 rfl ⟨⟨by omega, by omega⟩, ⟨by omega, by omega⟩, ⟨by omega, by omega⟩, ⟨by omega, by omega⟩, ⟨by omega, by omega⟩, trivial⟩ ?_
                refine R_ic (t := 31) hc122 rfl rfl (fun (_ : 6 ≤ 6) => ?_) (fun (z : ¬ (6 ≤ 6)) => absurd (by decide) z)
                refine R_s (P := True) (f' := (32, [some (vR 88), some (vI t), some (vI ((((((12 - (rd (A 16) ((6 * t) + 0))) - (rd (A 16) ((6 * t) + 1))) - (rd (A 16) ((6 * t) + 2))) - (rd (A 16) ((6 * t) + 3))) - (rd (A 16) ((6 * t) + 4))) - (rd (A 16) ((6 * t) + 5)))), some (vI 6)], [vI ((((((12 - (rd (A 16) ((6 * t) + 0))) - (rd (A 16) ((6 * t) + 1))) - (rd (A 16) ((6 * t) + 2))) - (rd (A 16) ((6 * t) + 3))) - (rd (A 16) ((6 * t) + 4))) - (rd (A 16) ((6 * t) + 5)))], LAY (u (shA A) 16 (wr (A 16) ((t * 6) + d) ((rd (A 16) ((t * 6) + d)) + n))) (shF F), 0, 0)) hc122 1 rfl trivial ?_
                refine R_reti hc122 rfl rfl ?_
                refine R_s (f' := (46, [some (vR 88), some (vI t), some (vI d), some (vI n)], [vI ((((((12 - (rd (A 16) ((6 * t) + 0))) - (rd (A 16) ((6 * t) + 1))) - (rd (A 16) ((6 * t) + 2))) - (rd (A 16) ((6 * t) + 3))) - (rd (A 16) ((6 * t) + 4))) - (rd (A 16) ((6 * t) + 5))), vI n], LAY (u (shA A) 16 (wr (A 16) ((t * 6) + d) ((rd (A 16) ((t * 6) + d)) + n))) (shF F), 0, 0)) hc123 0 rfl trivial ?_
                refine R_ic (t := 56) hc123 rfl rfl (fun (c135 : n ≤ (((((12 - (rd (A 16) ((6 * t) + 0))) - (rd (A 16) ((6 * t) + 1))) - (rd (A 16) ((6 * t) + 2))) - (rd (A 16) ((6 * t) + 3))) - (rd (A 16) ((6 * t) + 4))) - (rd (A 16) ((6 * t) + 5))) => ?_) (fun (c135 : ¬ (n ≤ (((((12 - (rd (A 16) ((6 * t) + 0))) - (rd (A 16) ((6 * t) + 1))) - (rd (A 16) ((6 * t) + 2))) - (rd (A 16) ((6 * t) + 3))) - (rd (A 16) ((6 * t) + 4))) - (rd (A 16) ((6 * t) + 5)))) => ?_)
                · refine R_s (P := inI (6 * t) ∧ inI ((6 * t) + d) ∧ (0 ≤ (6 * t) + d ∧ (6 * t) + d < ((A 16).length : Int)) ∧ inI ((rd (A 16) ((6 * t) + d)) + n) ∧ (0 ≤ (6 * t) + d ∧ (6 * t) + d < ((A 16).length : Int)) ∧ inI (6 * t) ∧ inI ((6 * t) + d) ∧ (0 ≤ (6 * t) + d ∧ (6 * t) + d < ((wr (A 16) ((6 * t) + d) ((rd (A 16) ((6 * t) + d)) + n)).length : Int)) ∧ True) (f' := (82, [some (vR 88), some (vI t), some (vI d), some (vI n)], [vI (rd (wr (A 16) ((6 * t) + d) ((rd (A 16) ((6 * t) + d)) + n)) ((6 * t) + d))], LAY (u (u (shA A) 16 (wr (A 16) ((t * 6) + d) ((rd (A 16) ((t * 6) + d)) + n))) 98 (wr (A 16) ((6 * t) + d) ((rd (A 16) ((6 * t) + d)) + n))) (shF F), 0, 0)) hc123 20 rfl ⟨⟨by omega, by omega⟩, ⟨by omega, by omega⟩, ⟨by omega, by omega⟩, ⟨by omega, by omega⟩, ⟨by omega, by omega⟩, ⟨by omega, by omega⟩, ⟨by omega, by omega⟩, ⟨by omega, by simp only [wr_len]; omega⟩, trivial⟩ ?_
                  refine R_reti hc123 rfl rfl ?_
                  first
                    | (exfalso; omega; done)
                    | exact ⟨(by rw [show rd (wr (A 16) ((6 * t) + d) ((rd (A 16) ((6 * t) + d)) + n)) ((6 * t) + d) = rd (wr (A 16) ((t * 6) + d) ((rd (A 16) ((t * 6) + d)) + n)) ((t * 6) + d) by omega]), (u A 16 (wr (A 16) ((t * 6) + d) ((rd (A 16) ((t * 6) + d)) + n))), F, rfl, rfl, (REL_part hR0 (by omega) (by omega) (by unfold sum6; omega))⟩
                    | (have e9 : 6 * t + d = t * 6 + d := (by omega); exact ⟨(by rw [e9]), (u A 16 (wr (A 16) ((t * 6) + d) ((rd (A 16) ((t * 6) + d)) + n))), F, (by rw [e9]; rfl), rfl, (REL_part hR0 (by omega) (by omega) (by unfold sum6; omega))⟩)
                · refine R_s (P := True) (f' := (52, [some (vR 88), some (vI t), some (vI d), some (vI n)], [vI (-8), vR 88], LAY (u (shA A) 16 (wr (A 16) ((t * 6) + d) ((rd (A 16) ((t * 6) + d)) + n))) (shF F), 0, 0)) hc123 2 rfl trivial ?_
                  refine R_cv hc123 rfl rfl ?_ (fun r G h => h)
                  refine R_s (P := inI 8 ∧ (0 ≤ 8 ∧ 8 < ((A 87).length : Int)) ∧ inI ((rd (A 87) 8) + 1) ∧ (0 ≤ 8 ∧ 8 < ((A 87).length : Int)) ∧ True) (f' := (12, [some (vR 88), some (vI (-8))], [vI (-8)], LAY (u (u (shA A) 16 (wr (A 16) ((t * 6) + d) ((rd (A 16) ((t * 6) + d)) + n))) 89 (wr (A 87) 8 ((rd (A 87) 8) + 1))) (shF F), 0, 0)) hc105 10 rfl ⟨⟨by omega, by omega⟩, ⟨by omega, by omega⟩, ⟨by omega, by omega⟩, ⟨by omega, by omega⟩, trivial⟩ ?_
                  refine R_reti hc105 rfl rfl ?_
                  refine R_s (f' := (55, [some (vR 88), some (vI t), some (vI d), some (vI n)], [vI (-8)], LAY (u (u (shA A) 16 (wr (A 16) ((t * 6) + d) ((rd (A 16) ((t * 6) + d)) + n))) 89 (wr (A 87) 8 ((rd (A 87) 8) + 1))) (shF F), 0, 0)) hc123 0 rfl trivial ?_
                  refine R_reti hc123 rfl rfl ?_
                  first
                    | (exfalso; omega; done)
                    | exact ⟨(by rw [show (-8) = rd (wr (A 16) ((t * 6) + d) ((rd (A 16) ((t * 6) + d)) + n)) ((t * 6) + d) by omega]), (u A 16 (wr (A 16) ((t * 6) + d) ((rd (A 16) ((t * 6) + d)) + n))), F, rfl, rfl, (REL_part hR0 (by omega) (by omega) (by unfold sum6; omega))⟩
                    | (have e9 : 6 * t + d = t * 6 + d := (by omega); exact ⟨(by rw [e9]), (u A 16 (wr (A 16) ((t * 6) + d) ((rd (A 16) ((t * 6) + d)) + n))), F, (by rw [e9]; rfl), rfl, (REL_part hR0 (by omega) (by omega) (by unfold sum6; omega))⟩)
              · refine R_s (P := True) (f' := (59, [some (vR 1), some (vI t), some (vI d), some (vI n)], [vI (-8), vR 1], LAY (shA A) (shF F), 0, 0)) hc68 2 rfl trivial ?_
                refine R_cv hc68 rfl rfl ?_ (fun r G h => h)
                refine R_s (P := True) (f' := (3, [some (vR 1), some (vI (-8))], [vI (-2), vI (-8)], LAY (shA A) (shF F), 0, 0)) hc93 2 rfl trivial ?_
                refine R_ic (t := 23) hc93 rfl rfl (fun (z : (-2) < (-8)) => absurd z (by decide)) (fun (_ : ¬ ((-2) < (-8))) => ?_)
                refine R_s (P := True) (f' := (9, [some (vR 1), some (vI (-8))], [vI (-8), vI (-8)], LAY (shA A) (shF F), 0, 0)) hc93 2 rfl trivial ?_
                refine R_ic (t := 23) hc93 rfl rfl (fun (z : (-8) < (-8)) => absurd z (by decide)) (fun (_ : ¬ ((-8) < (-8))) => ?_)
                refine R_s (P := inI 8 ∧ (0 ≤ 8 ∧ 8 < ((A 87).length : Int)) ∧ inI ((rd (A 87) 8) + 1) ∧ (0 ≤ 8 ∧ 8 < ((A 87).length : Int)) ∧ True) (f' := (24, [some (vR 1), some (vI (-8))], [vI (-8)], LAY (u (shA A) 87 (wr (A 87) 8 ((rd (A 87) 8) + 1))) (shF F), 0, 0)) hc93 10 rfl ⟨⟨by omega, by omega⟩, ⟨by omega, by omega⟩, ⟨by omega, by omega⟩, ⟨by omega, by omega⟩, trivial⟩ ?_
                refine R_reti hc93 rfl rfl ?_
                refine R_s (f' := (62, [some (vR 1), some (vI t), some (vI d), some (vI n)], [vI (-8)], LAY (u (shA A) 87 (wr (A 87) 8 ((rd (A 87) 8) + 1))) (shF F), 0, 0)) hc68 0 rfl trivial ?_
                refine R_reti hc68 rfl rfl ⟨⟨_, rfl⟩, ⟨_, _, rfl, rfl⟩, ?_⟩
                refine R_s (P := True) (f' := (2, [some (vR 88), some (vI t), some (vI d), some (vI n)], [vI t, vR 88], LAY (u (shA A) 87 (wr (A 87) 8 ((rd (A 87) 8) + 1))) (shF F), 0, 0)) hc123 2 rfl trivial ?_
                refine R_cv hc123 rfl rfl ?_ (fun r G h => h)
                refine R_s (P := inI ((F 4) - 1) ∧ True) (f' := (8, [some (vR 88), some (vI t)], [vI ((F 4) - 1), vI 0, vI t], LAY (u (shA A) 87 (wr (A 87) 8 ((rd (A 87) 8) + 1))) (shF F), 0, 0)) hc107 6 rfl ⟨⟨by omega, by omega⟩, trivial⟩ ?_
                refine R_cs hc107 rfl rfl ?_ (fun r G h => h)
                refine R_s (P := True) (f' := (2, [some (vI t), some (vI 0), some (vI ((F 4) - 1))], [vI 0, vI t], LAY (u (shA A) 87 (wr (A 87) 8 ((rd (A 87) 8) + 1))) (shF F), 0, 0)) hc104 2 rfl trivial ?_
                refine R_ic (t := 14) hc104 rfl rfl (fun (z : t < 0) => absurd z (by omega)) (fun (_ : ¬ (t < 0)) => ?_)
                refine R_s (P := True) (f' := (7, [some (vI t), some (vI 0), some (vI ((F 4) - 1))], [vI ((F 4) - 1), vI t], LAY (u (shA A) 87 (wr (A 87) 8 ((rd (A 87) 8) + 1))) (shF F), 0, 0)) hc104 2 rfl trivial ?_
                refine R_ic (t := 14) hc104 rfl rfl (fun (z : (F 4) - 1 < t) => absurd z (by omega)) (fun (_ : ¬ ((F 4) - 1 < t)) => ?_)
                refine R_s (P := True) (f' := (15, [some (vI t), some (vI 0), some (vI ((F 4) - 1))], [vI 1], LAY (u (shA A) 87 (wr (A 87) 8 ((rd (A 87) 8) + 1))) (shF F), 0, 0)) hc104 2 rfl trivial ?_
                refine R_retz hc104 rfl rfl (Or.inr rfl) ?_
                refine R_s (f' := (11, [some (vR 88), some (vI t)], [vI 1], LAY (u (shA A) 87 (wr (A 87) 8 ((rd (A 87) 8) + 1))) (shF F), 0, 0)) hc107 0 rfl trivial ?_
                refine R_retz hc107 rfl rfl (Or.inr rfl) ?_
                refine R_s (f' := (5, [some (vR 88), some (vI t), some (vI d), some (vI n)], [vI 1], LAY (u (shA A) 87 (wr (A 87) 8 ((rd (A 87) 8) + 1))) (shF F), 0, 0)) hc123 0 rfl trivial ?_
                refine R_if (t := 16) hc123 rfl rfl (fun (z : 1 = 0) => absurd z (by decide)) (fun (_ : ¬ (1 = 0)) => ?_)
                refine R_s (P := True) (f' := (10, [some (vR 88), some (vI t), some (vI d), some (vI n)], [vI d, vR 88], LAY (u (shA A) 87 (wr (A 87) 8 ((rd (A 87) 8) + 1))) (shF F), 0, 0)) hc123 2 rfl trivial ?_
                refine R_cv hc123 rfl rfl ?_ (fun r G h => h)
                refine R_s (P := inI ((F 0) - 1) ∧ True) (f' := (8, [some (vR 88), some (vI d)], [vI ((F 0) - 1), vI 0, vI d], LAY (u (shA A) 87 (wr (A 87) 8 ((rd (A 87) 8) + 1))) (shF F), 0, 0)) hc108 6 rfl ⟨⟨by omega, by omega⟩, trivial⟩ ?_
                refine R_cs hc108 rfl rfl ?_ (fun r G h => h)
                refine R_s (P := True) (f' := (2, [some (vI d), some (vI 0), some (vI ((F 0) - 1))], [vI 0, vI d], LAY (u (shA A) 87 (wr (A 87) 8 ((rd (A 87) 8) + 1))) (shF F), 0, 0)) hc104 2 rfl trivial ?_
                refine R_ic (t := 14) hc104 rfl rfl (fun (z : d < 0) => absurd z (by omega)) (fun (_ : ¬ (d < 0)) => ?_)
                refine R_s (P := True) (f' := (7, [some (vI d), some (vI 0), some (vI ((F 0) - 1))], [vI ((F 0) - 1), vI d], LAY (u (shA A) 87 (wr (A 87) 8 ((rd (A 87) 8) + 1))) (shF F), 0, 0)) hc104 2 rfl trivial ?_
                refine R_ic (t := 14) hc104 rfl rfl (fun (z : (F 0) - 1 < d) => absurd z (by omega)) (fun (_ : ¬ ((F 0) - 1 < d)) => ?_)
                refine R_s (P := True) (f' := (15, [some (vI d), some (vI 0), some (vI ((F 0) - 1))], [vI 1], LAY (u (shA A) 87 (wr (A 87) 8 ((rd (A 87) 8) + 1))) (shF F), 0, 0)) hc104 2 rfl trivial ?_
                refine R_retz hc104 rfl rfl (Or.inr rfl) ?_
                refine R_s (f' := (11, [some (vR 88), some (vI d)], [vI 1], LAY (u (shA A) 87 (wr (A 87) 8 ((rd (A 87) 8) + 1))) (shF F), 0, 0)) hc108 0 rfl trivial ?_
                refine R_retz hc108 rfl rfl (Or.inr rfl) ?_
                refine R_s (f' := (13, [some (vR 88), some (vI t), some (vI d), some (vI n)], [vI 1], LAY (u (shA A) 87 (wr (A 87) 8 ((rd (A 87) 8) + 1))) (shF F), 0, 0)) hc123 0 rfl trivial ?_
                refine R_if (t := 23) hc123 rfl rfl (fun (_ : ¬ 1 = 0) => ?_) (fun (z : ¬ (¬ 1 = 0)) => absurd (by decide) z)
                refine R_s (P := True) (f' := (27, [some (vR 88), some (vI t), some (vI d), some (vI n)], [vI 12, vI 1, vI n], LAY (u (shA A) 87 (wr (A 87) 8 ((rd (A 87) 8) + 1))) (shF F), 0, 0)) hc123 3 rfl trivial ?_
                refine R_cs hc123 rfl rfl ?_ (fun r G h => h)
                refine R_s (P := True) (f' := (2, [some (vI n), some (vI 1), some (vI 12)], [vI 1, vI n], LAY (u (shA A) 87 (wr (A 87) 8 ((rd (A 87) 8) + 1))) (shF F), 0, 0)) hc104 2 rfl trivial ?_
                refine R_ic (t := 14) hc104 rfl rfl (fun (z : n < 1) => absurd z (by omega)) (fun (_ : ¬ (n < 1)) => ?_)
                refine R_s (P := True) (f' := (7, [some (vI n), some (vI 1), some (vI 12)], [vI 12, vI n], LAY (u (shA A) 87 (wr (A 87) 8 ((rd (A 87) 8) + 1))) (shF F), 0, 0)) hc104 2 rfl trivial ?_
                refine R_ic (t := 14) hc104 rfl rfl (fun (z : 12 < n) => absurd z (by omega)) (fun (_ : ¬ (12 < n)) => ?_)
                refine R_s (P := True) (f' := (15, [some (vI n), some (vI 1), some (vI 12)], [vI 1], LAY (u (shA A) 87 (wr (A 87) 8 ((rd (A 87) 8) + 1))) (shF F), 0, 0)) hc104 2 rfl trivial ?_
                refine R_retz hc104 rfl rfl (Or.inr rfl) ?_
                refine R_s (f' := (30, [some (vR 88), some (vI t), some (vI d), some (vI n)], [vI 1], LAY (u (shA A) 87 (wr (A 87) 8 ((rd (A 87) 8) + 1))) (shF F), 0, 0)) hc123 0 rfl trivial ?_
                refine R_if (t := 40) hc123 rfl rfl (fun (_ : ¬ 1 = 0) => ?_) (fun (z : ¬ (¬ 1 = 0)) => absurd (by decide) z)
                refine R_s (P := True) (f' := (43, [some (vR 88), some (vI t), some (vI d), some (vI n)], [vI t, vR 88, vI n], LAY (u (shA A) 87 (wr (A 87) 8 ((rd (A 87) 8) + 1))) (shF F), 0, 0)) hc123 3 rfl trivial ?_
                refine R_cv hc123 rfl rfl ?_ (fun r G h => h)
                refine R_s (P := True) (f' := (8, [some (vR 88), some (vI t), some (vI 12), some (vI 0)], [vI 6, vI 0], LAY (u (shA A) 87 (wr (A 87) 8 ((rd (A 87) 8) + 1))) (shF F), 0, 0)) hc122 6 rfl trivial ?_
                refine R_ic (t := 31) hc122 rfl rfl (fun (z : 6 ≤ 0) => absurd z (by decide)) (fun (_ : ¬ (6 ≤ 0)) => ?_)
                refine R_s (P := inI (6 * t) ∧ inI ((6 * t) + 0) ∧ (0 ≤ (6 * t) + 0 ∧ (6 * t) + 0 < ((A 16).length : Int)) ∧ inI (12 - (rd (A 16) ((6 * t) + 0))) ∧ inI 1 ∧ True) (f' := (8, [some (vR 88), some (vI t), some (vI (12 - (rd (A 16) ((6 * t) + 0)))), some (vI 1)], [vI 6, vI 1], LAY (u (shA A) 87 (wr (A 87) 8 ((rd (A 87) 8) + 1))) (shF F), 0, 0)) hc122 15 rfl ⟨⟨by omega, by omega⟩, ⟨by omega, by omega⟩, ⟨by omega, by omega⟩, ⟨by omega, by omega⟩, ⟨by omega, by omega⟩, trivial⟩ ?_
                refine R_ic (t := 31) hc122 rfl rfl (fun (z : 6 ≤ 1) => absurd z (by decide)) (fun (_ : ¬ (6 ≤ 1)) => ?_)
                refine R_s (P := inI (6 * t) ∧ inI ((6 * t) + 1) ∧ (0 ≤ (6 * t) + 1 ∧ (6 * t) + 1 < ((A 16).length : Int)) ∧ inI ((12 - (rd (A 16) ((6 * t) + 0))) - (rd (A 16) ((6 * t) + 1))) ∧ inI 2 ∧ True) (f' := (8, [some (vR 88), some (vI t), some (vI ((12 - (rd (A 16) ((6 * t) + 0))) - (rd (A 16) ((6 * t) + 1)))), some (vI 2)], [vI 6, vI 2], LAY (u (shA A) 87 (wr (A 87) 8 ((rd (A 87) 8) + 1))) (shF F), 0, 0)) hc122 15 rfl ⟨⟨by omega, by omega⟩, ⟨by omega, by omega⟩, ⟨by omega, by omega⟩, ⟨by omega, by omega⟩, ⟨by omega, by omega⟩, trivial⟩ ?_
                refine R_ic (t := 31) hc122 rfl rfl (fun (z : 6 ≤ 2) => absurd z (by decide)) (fun (_ : ¬ (6 ≤ 2)) => ?_)
                refine R_s (P := inI (6 * t) ∧ inI ((6 * t) + 2) ∧ (0 ≤ (6 * t) + 2 ∧ (6 * t) + 2 < ((A 16).length : Int)) ∧ inI (((12 - (rd (A 16) ((6 * t) + 0))) - (rd (A 16) ((6 * t) + 1))) - (rd (A 16) ((6 * t) + 2))) ∧ inI 3 ∧ True) (f' := (8, [some (vR 88), some (vI t), some (vI (((12 - (rd (A 16) ((6 * t) + 0))) - (rd (A 16) ((6 * t) + 1))) - (rd (A 16) ((6 * t) + 2)))), some (vI 3)], [vI 6, vI 3], LAY (u (shA A) 87 (wr (A 87) 8 ((rd (A 87) 8) + 1))) (shF F), 0, 0)) hc122 15 rfl ⟨⟨by omega, by omega⟩, ⟨by omega, by omega⟩, ⟨by omega, by omega⟩, ⟨by omega, by omega⟩, ⟨by omega, by omega⟩, trivial⟩ ?_
                refine R_ic (t := 31) hc122 rfl rfl (fun (z : 6 ≤ 3) => absurd z (by decide)) (fun (_ : ¬ (6 ≤ 3)) => ?_)
                refine R_s (P := inI (6 * t) ∧ inI ((6 * t) + 3) ∧ (0 ≤ (6 * t) + 3 ∧ (6 * t) + 3 < ((A 16).length : Int)) ∧ inI ((((12 - (rd (A 16) ((6 * t) + 0))) - (rd (A 16) ((6 * t) + 1))) - (rd (A 16) ((6 * t) + 2))) - (rd (A 16) ((6 * t) + 3))) ∧ inI 4 ∧ True) (f' := (8, [some (vR 88), some (vI t), some (vI ((((12 - (rd (A 16) ((6 * t) + 0))) - (rd (A 16) ((6 * t) + 1))) - (rd (A 16) ((6 * t) + 2))) - (rd (A 16) ((6 * t) + 3)))), some (vI 4)], [vI 6, vI 4], LAY (u (shA A) 87 (wr (A 87) 8 ((rd (A 87) 8) + 1))) (shF F), 0, 0)) hc122 15 rfl ⟨⟨by omega, by omega⟩, ⟨by omega, by omega⟩, ⟨by omega, by omega⟩, ⟨by omega, by omega⟩, ⟨by omega, by omega⟩, trivial⟩ ?_
                refine R_ic (t := 31) hc122 rfl rfl (fun (z : 6 ≤ 4) => absurd z (by decide)) (fun (_ : ¬ (6 ≤ 4)) => ?_)
                refine R_s (P := inI (6 * t) ∧ inI ((6 * t) + 4) ∧ (0 ≤ (6 * t) + 4 ∧ (6 * t) + 4 < ((A 16).length : Int)) ∧ inI (((((12 - (rd (A 16) ((6 * t) + 0))) - (rd (A 16) ((6 * t) + 1))) - (rd (A 16) ((6 * t) + 2))) - (rd (A 16) ((6 * t) + 3))) - (rd (A 16) ((6 * t) + 4))) ∧ inI 5 ∧ True) (f' := (8, [some (vR 88), some (vI t), some (vI (((((12 - (rd (A 16) ((6 * t) + 0))) - (rd (A 16) ((6 * t) + 1))) - (rd (A 16) ((6 * t) + 2))) - (rd (A 16) ((6 * t) + 3))) - (rd (A 16) ((6 * t) + 4)))), some (vI 5)], [vI 6, vI 5], LAY (u (shA A) 87 (wr (A 87) 8 ((rd (A 87) 8) + 1))) (shF F), 0, 0)) hc122 15 rfl ⟨⟨by omega, by omega⟩, ⟨by omega, by omega⟩, ⟨by omega, by omega⟩, ⟨by omega, by omega⟩, ⟨by omega, by omega⟩, trivial⟩ ?_
                refine R_ic (t := 31) hc122 rfl rfl (fun (z : 6 ≤ 5) => absurd z (by decide)) (fun (_ : ¬ (6 ≤ 5)) => ?_)
                refine R_s (P := inI (6 * t) ∧ inI ((6 * t) + 5) ∧ (0 ≤ (6 * t) + 5 ∧ (6 * t) + 5 < ((A 16).length : Int)) ∧ inI ((((((12 - (rd (A 16) ((6 * t) + 0))) - (rd (A 16) ((6 * t) + 1))) - (rd (A 16) ((6 * t) + 2))) - (rd (A 16) ((6 * t) + 3))) - (rd (A 16) ((6 * t) + 4))) - (rd (A 16) ((6 * t) + 5))) ∧ inI 6 ∧ True) (f' := (8, [some (vR 88), some (vI t), some (vI ((((((12 - (rd (A 16) ((6 * t) + 0))) - (rd (A 16) ((6 * t) + 1))) - (rd (A 16) ((6 * t) + 2))) - (rd (A 16) ((6 * t) + 3))) - (rd (A 16) ((6 * t) + 4))) - (rd (A 16) ((6 * t) + 5)))), some (vI 6)], [vI 6, vI 6], LAY (u (shA A) 87 (wr (A 87) 8 ((rd (A 87) 8) + 1))) (shF F), 0, 0)) hc122 15 rfl ⟨⟨by omega, by omega⟩, ⟨by omega, by omega⟩, ⟨by omega, by omega⟩, ⟨by omega, by omega⟩, ⟨by omega, by omega⟩, trivial⟩ ?_
                refine R_ic (t := 31) hc122 rfl rfl (fun (_ : 6 ≤ 6) => ?_) (fun (z : ¬ (6 ≤ 6)) => absurd (by decide) z)
                refine R_s (P := True) (f' := (32, [some (vR 88), some (vI t), some (vI ((((((12 - (rd (A 16) ((6 * t) + 0))) - (rd (A 16) ((6 * t) + 1))) - (rd (A 16) ((6 * t) + 2))) - (rd (A 16) ((6 * t) + 3))) - (rd (A 16) ((6 * t) + 4))) - (rd (A 16) ((6 * t) + 5)))), some (vI 6)], [vI ((((((12 - (rd (A 16) ((6 * t) + 0))) - (rd (A 16) ((6 * t) + 1))) - (rd (A 16) ((6 * t) + 2))) - (rd (A 16) ((6 * t) + 3))) - (rd (A 16) ((6 * t) + 4))) - (rd (A 16) ((6 * t) + 5)))], LAY (u (shA A) 87 (wr (A 87) 8 ((rd (A 87) 8) + 1))) (shF F), 0, 0)) hc122 1 rfl trivial ?_
                refine R_reti hc122 rfl rfl ?_
                refine R_s (f' := (46, [some (vR 88), some (vI t), some (vI d), some (vI n)], [vI ((((((12 - (rd (A 16) ((6 * t) + 0))) - (rd (A 16) ((6 * t) + 1))) - (rd (A 16) ((6 * t) + 2))) - (rd (A 16) ((6 * t) + 3))) - (rd (A 16) ((6 * t) + 4))) - (rd (A 16) ((6 * t) + 5))), vI n], LAY (u (shA A) 87 (wr (A 87) 8 ((rd (A 87) 8) + 1))) (shF F), 0, 0)) hc123 0 rfl trivial ?_
                refine R_ic (t := 56) hc123 rfl rfl (fun (c137 : n ≤ (((((12 - (rd (A 16) ((6 * t) + 0))) - (rd (A 16) ((6 * t) + 1))) - (rd (A 16) ((6 * t) + 2))) - (rd (A 16) ((6 * t) + 3))) - (rd (A 16) ((6 * t) + 4))) - (rd (A 16) ((6 * t) + 5))) => ?_) (fun (c137 : ¬ (n ≤ (((((12 - (rd (A 16) ((6 * t) + 0))) - (rd (A 16) ((6 * t) + 1))) - (rd (A 16) ((6 * t) + 2))) - (rd (A 16) ((6 * t) + 3))) - (rd (A 16) ((6 * t) + 4))) - (rd (A 16) ((6 * t) + 5)))) => ?_)
                · refine R_s (P := inI (6 * t) ∧ inI ((6 * t) + d) ∧ (0 ≤ (6 * t) + d ∧ (6 * t) + d < ((A 16).length : Int)) ∧ inI ((rd (A 16) ((6 * t) + d)) + n) ∧ (0 ≤ (6 * t) + d ∧ (6 * t) + d < ((A 16).length : Int)) ∧ inI (6 * t) ∧ inI ((6 * t) + d) ∧ (0 ≤ (6 * t) + d ∧ (6 * t) + d < ((wr (A 16) ((6 * t) + d) ((rd (A 16) ((6 * t) + d)) + n)).length : Int)) ∧ True) (f' := (82, [some (vR 88), some (vI t), some (vI d), some (vI n)], [vI (rd (wr (A 16) ((6 * t) + d) ((rd (A 16) ((6 * t) + d)) + n)) ((6 * t) + d))], LAY (u (u (shA A) 87 (wr (A 87) 8 ((rd (A 87) 8) + 1))) 98 (wr (A 16) ((6 * t) + d) ((rd (A 16) ((6 * t) + d)) + n))) (shF F), 0, 0)) hc123 20 rfl ⟨⟨by omega, by omega⟩, ⟨by omega, by omega⟩, ⟨by omega, by omega⟩, ⟨by omega, by omega⟩, ⟨by omega, by omega⟩, ⟨by omega, by omega⟩, ⟨by omega, by omega⟩, ⟨by omega, by simp only [wr_len]; omega⟩, trivial⟩ ?_
                  refine R_reti hc123 rfl rfl ?_
                  first
                    | (exfalso; omega; done)
                    | exact ⟨(by rw [show rd (wr (A 16) ((6 * t) + d) ((rd (A 16) ((6 * t) + d)) + n)) ((6 * t) + d) = (-8) by omega]), (u A 87 (wr (A 87) 8 ((rd (A 87) 8) + 1))), F, rfl, rfl, REL_ref hR0 (by decide) (by decide)⟩
                    | (have e9 : 6 * t + d = t * 6 + d := (by omega); exact ⟨(by rw [e9]), (u A 87 (wr (A 87) 8 ((rd (A 87) 8) + 1))), F, (by rw [e9]; rfl), rfl, REL_ref hR0 (by decide) (by decide)⟩)
                · refine R_s (P := True) (f' := (52, [some (vR 88), some (vI t), some (vI d), some (vI n)], [vI (-8), vR 88], LAY (u (shA A) 87 (wr (A 87) 8 ((rd (A 87) 8) + 1))) (shF F), 0, 0)) hc123 2 rfl trivial ?_
                  refine R_cv hc123 rfl rfl ?_ (fun r G h => h)
                  refine R_s (P := inI 8 ∧ (0 ≤ 8 ∧ 8 < ((A 87).length : Int)) ∧ inI ((rd (A 87) 8) + 1) ∧ (0 ≤ 8 ∧ 8 < ((A 87).length : Int)) ∧ True) (f' := (12, [some (vR 88), some (vI (-8))], [vI (-8)], LAY (u (u (shA A) 87 (wr (A 87) 8 ((rd (A 87) 8) + 1))) 89 (wr (A 87) 8 ((rd (A 87) 8) + 1))) (shF F), 0, 0)) hc105 10 rfl ⟨⟨by omega, by omega⟩, ⟨by omega, by omega⟩, ⟨by omega, by omega⟩, ⟨by omega, by omega⟩, trivial⟩ ?_
                  refine R_reti hc105 rfl rfl ?_
                  refine R_s (f' := (55, [some (vR 88), some (vI t), some (vI d), some (vI n)], [vI (-8)], LAY (u (u (shA A) 87 (wr (A 87) 8 ((rd (A 87) 8) + 1))) 89 (wr (A 87) 8 ((rd (A 87) 8) + 1))) (shF F), 0, 0)) hc123 0 rfl trivial ?_
                  refine R_reti hc123 rfl rfl ?_
                  first
                    | (exfalso; omega; done)
                    | exact ⟨rfl, (u A 87 (wr (A 87) 8 ((rd (A 87) 8) + 1))), F, rfl, rfl, REL_ref hR0 (by decide) (by decide)⟩
                    | (have e9 : 6 * t + d = t * 6 + d := (by omega); exact ⟨(by rw [e9]), (u A 87 (wr (A 87) 8 ((rd (A 87) 8) + 1))), F, (by rw [e9]; rfl), rfl, REL_ref hR0 (by decide) (by decide)⟩)
            · refine R_s (P := True) (f' := (40, [some (vR 1), some (vI t), some (vI d), some (vI n)], [vI (-7), vR 1], LAY (shA A) (shF F), 0, 0)) hc68 2 rfl trivial ?_
              refine R_cv hc68 rfl rfl ?_ (fun r G h => h)
              refine R_s (P := True) (f' := (3, [some (vR 1), some (vI (-7))], [vI (-2), vI (-7)], LAY (shA A) (shF F), 0, 0)) hc93 2 rfl trivial ?_
              refine R_ic (t := 23) hc93 rfl rfl (fun (z : (-2) < (-7)) => absurd z (by decide)) (fun (_ : ¬ ((-2) < (-7))) => ?_)
              refine R_s (P := True) (f' := (9, [some (vR 1), some (vI (-7))], [vI (-8), vI (-7)], LAY (shA A) (shF F), 0, 0)) hc93 2 rfl trivial ?_
              refine R_ic (t := 23) hc93 rfl rfl (fun (z : (-7) < (-8)) => absurd z (by decide)) (fun (_ : ¬ ((-7) < (-8))) => ?_)
              refine R_s (P := inI 7 ∧ (0 ≤ 7 ∧ 7 < ((A 87).length : Int)) ∧ inI ((rd (A 87) 7) + 1) ∧ (0 ≤ 7 ∧ 7 < ((A 87).length : Int)) ∧ True) (f' := (24, [some (vR 1), some (vI (-7))], [vI (-7)], LAY (u (shA A) 87 (wr (A 87) 7 ((rd (A 87) 7) + 1))) (shF F), 0, 0)) hc93 10 rfl ⟨⟨by omega, by omega⟩, ⟨by omega, by omega⟩, ⟨by omega, by omega⟩, ⟨by omega, by omega⟩, trivial⟩ ?_
              refine R_reti hc93 rfl rfl ?_
              refine R_s (f' := (43, [some (vR 1), some (vI t), some (vI d), some (vI n)], [vI (-7)], LAY (u (shA A) 87 (wr (A 87) 7 ((rd (A 87) 7) + 1))) (shF F), 0, 0)) hc68 0 rfl trivial ?_
              refine R_reti hc68 rfl rfl ⟨⟨_, rfl⟩, ⟨_, _, rfl, rfl⟩, ?_⟩
              refine R_s (P := True) (f' := (2, [some (vR 88), some (vI t), some (vI d), some (vI n)], [vI t, vR 88], LAY (u (shA A) 87 (wr (A 87) 7 ((rd (A 87) 7) + 1))) (shF F), 0, 0)) hc123 2 rfl trivial ?_
              refine R_cv hc123 rfl rfl ?_ (fun r G h => h)
              refine R_s (P := inI ((F 4) - 1) ∧ True) (f' := (8, [some (vR 88), some (vI t)], [vI ((F 4) - 1), vI 0, vI t], LAY (u (shA A) 87 (wr (A 87) 7 ((rd (A 87) 7) + 1))) (shF F), 0, 0)) hc107 6 rfl ⟨⟨by omega, by omega⟩, trivial⟩ ?_
              refine R_cs hc107 rfl rfl ?_ (fun r G h => h)
              refine R_s (P := True) (f' := (2, [some (vI t), some (vI 0), some (vI ((F 4) - 1))], [vI 0, vI t], LAY (u (shA A) 87 (wr (A 87) 7 ((rd (A 87) 7) + 1))) (shF F), 0, 0)) hc104 2 rfl trivial ?_
              refine R_ic (t := 14) hc104 rfl rfl (fun (z : t < 0) => absurd z (by omega)) (fun (_ : ¬ (t < 0)) => ?_)
              refine R_s (P := True) (f' := (7, [some (vI t), some (vI 0), some (vI ((F 4) - 1))], [vI ((F 4) - 1), vI t], LAY (u (shA A) 87 (wr (A 87) 7 ((rd (A 87) 7) + 1))) (shF F), 0, 0)) hc104 2 rfl trivial ?_
              refine R_ic (t := 14) hc104 rfl rfl (fun (z : (F 4) - 1 < t) => absurd z (by omega)) (fun (_ : ¬ ((F 4) - 1 < t)) => ?_)
              refine R_s (P := True) (f' := (15, [some (vI t), some (vI 0), some (vI ((F 4) - 1))], [vI 1], LAY (u (shA A) 87 (wr (A 87) 7 ((rd (A 87) 7) + 1))) (shF F), 0, 0)) hc104 2 rfl trivial ?_
              refine R_retz hc104 rfl rfl (Or.inr rfl) ?_
              refine R_s (f' := (11, [some (vR 88), some (vI t)], [vI 1], LAY (u (shA A) 87 (wr (A 87) 7 ((rd (A 87) 7) + 1))) (shF F), 0, 0)) hc107 0 rfl trivial ?_
              refine R_retz hc107 rfl rfl (Or.inr rfl) ?_
              refine R_s (f' := (5, [some (vR 88), some (vI t), some (vI d), some (vI n)], [vI 1], LAY (u (shA A) 87 (wr (A 87) 7 ((rd (A 87) 7) + 1))) (shF F), 0, 0)) hc123 0 rfl trivial ?_
              refine R_if (t := 16) hc123 rfl rfl (fun (z : 1 = 0) => absurd z (by decide)) (fun (_ : ¬ (1 = 0)) => ?_)
              refine R_s (P := True) (f' := (10, [some (vR 88), some (vI t), some (vI d), some (vI n)], [vI d, vR 88], LAY (u (shA A) 87 (wr (A 87) 7 ((rd (A 87) 7) + 1))) (shF F), 0, 0)) hc123 2 rfl trivial ?_
              refine R_cv hc123 rfl rfl ?_ (fun r G h => h)
              refine R_s (P := inI ((F 0) - 1) ∧ True) (f' := (8, [some (vR 88), some (vI d)], [vI ((F 0) - 1), vI 0, vI d], LAY (u (shA A) 87 (wr (A 87) 7 ((rd (A 87) 7) + 1))) (shF F), 0, 0)) hc108 6 rfl ⟨⟨by omega, by omega⟩, trivial⟩ ?_
              refine R_cs hc108 rfl rfl ?_ (fun r G h => h)
              refine R_s (P := True) (f' := (2, [some (vI d), some (vI 0), some (vI ((F 0) - 1))], [vI 0, vI d], LAY (u (shA A) 87 (wr (A 87) 7 ((rd (A 87) 7) + 1))) (shF F), 0, 0)) hc104 2 rfl trivial ?_
              refine R_ic (t := 14) hc104 rfl rfl (fun (z : d < 0) => absurd z (by omega)) (fun (_ : ¬ (d < 0)) => ?_)
              refine R_s (P := True) (f' := (7, [some (vI d), some (vI 0), some (vI ((F 0) - 1))], [vI ((F 0) - 1), vI d], LAY (u (shA A) 87 (wr (A 87) 7 ((rd (A 87) 7) + 1))) (shF F), 0, 0)) hc104 2 rfl trivial ?_
              refine R_ic (t := 14) hc104 rfl rfl (fun (z : (F 0) - 1 < d) => absurd z (by omega)) (fun (_ : ¬ ((F 0) - 1 < d)) => ?_)
              refine R_s (P := True) (f' := (15, [some (vI d), some (vI 0), some (vI ((F 0) - 1))], [vI 1], LAY (u (shA A) 87 (wr (A 87) 7 ((rd (A 87) 7) + 1))) (shF F), 0, 0)) hc104 2 rfl trivial ?_
              refine R_retz hc104 rfl rfl (Or.inr rfl) ?_
              refine R_s (f' := (11, [some (vR 88), some (vI d)], [vI 1], LAY (u (shA A) 87 (wr (A 87) 7 ((rd (A 87) 7) + 1))) (shF F), 0, 0)) hc108 0 rfl trivial ?_
              refine R_retz hc108 rfl rfl (Or.inr rfl) ?_
              refine R_s (f' := (13, [some (vR 88), some (vI t), some (vI d), some (vI n)], [vI 1], LAY (u (shA A) 87 (wr (A 87) 7 ((rd (A 87) 7) + 1))) (shF F), 0, 0)) hc123 0 rfl trivial ?_
              refine R_if (t := 23) hc123 rfl rfl (fun (_ : ¬ 1 = 0) => ?_) (fun (z : ¬ (¬ 1 = 0)) => absurd (by decide) z)
              refine R_s (P := True) (f' := (27, [some (vR 88), some (vI t), some (vI d), some (vI n)], [vI 12, vI 1, vI n], LAY (u (shA A) 87 (wr (A 87) 7 ((rd (A 87) 7) + 1))) (shF F), 0, 0)) hc123 3 rfl trivial ?_
              refine R_cs hc123 rfl rfl ?_ (fun r G h => h)
              refine R_s (P := True) (f' := (2, [some (vI n), some (vI 1), some (vI 12)], [vI 1, vI n], LAY (u (shA A) 87 (wr (A 87) 7 ((rd (A 87) 7) + 1))) (shF F), 0, 0)) hc104 2 rfl trivial ?_
              refine R_ic (t := 14) hc104 rfl rfl (fun (z : n < 1) => absurd z (by omega)) (fun (_ : ¬ (n < 1)) => ?_)
              refine R_s (P := True) (f' := (7, [some (vI n), some (vI 1), some (vI 12)], [vI 12, vI n], LAY (u (shA A) 87 (wr (A 87) 7 ((rd (A 87) 7) + 1))) (shF F), 0, 0)) hc104 2 rfl trivial ?_
              refine R_ic (t := 14) hc104 rfl rfl (fun (_ : 12 < n) => ?_) (fun (z : ¬ (12 < n)) => absurd (show 12 < n by omega) z)
              refine R_s (P := True) (f' := (15, [some (vI n), some (vI 1), some (vI 12)], [vI 0], LAY (u (shA A) 87 (wr (A 87) 7 ((rd (A 87) 7) + 1))) (shF F), 0, 0)) hc104 1 rfl trivial ?_
              refine R_retz hc104 rfl rfl (Or.inl rfl) ?_
              refine R_s (f' := (30, [some (vR 88), some (vI t), some (vI d), some (vI n)], [vI 0], LAY (u (shA A) 87 (wr (A 87) 7 ((rd (A 87) 7) + 1))) (shF F), 0, 0)) hc123 0 rfl trivial ?_
              refine R_if (t := 40) hc123 rfl rfl (fun (z : ¬ 0 = 0) => absurd z (by decide)) (fun (_ : ¬ (¬ 0 = 0)) => ?_)
              refine R_s (P := True) (f' := (36, [some (vR 88), some (vI t), some (vI d), some (vI n)], [vI (-7), vR 88], LAY (u (shA A) 87 (wr (A 87) 7 ((rd (A 87) 7) + 1))) (shF F), 0, 0)) hc123 2 rfl trivial ?_
              refine R_cv hc123 rfl rfl ?_ (fun r G h => h)
              refine R_s (P := inI 7 ∧ (0 ≤ 7 ∧ 7 < ((A 87).length : Int)) ∧ inI ((rd (A 87) 7) + 1) ∧ (0 ≤ 7 ∧ 7 < ((A 87).length : Int)) ∧ True) (f' := (12, [some (vR 88), some (vI (-7))], [vI (-7)], LAY (u (u (shA A) 87 (wr (A 87) 7 ((rd (A 87) 7) + 1))) 89 (wr (A 87) 7 ((rd (A 87) 7) + 1))) (shF F), 0, 0)) hc105 10 rfl ⟨⟨by omega, by omega⟩, ⟨by omega, by omega⟩, ⟨by omega, by omega⟩, ⟨by omega, by omega⟩, trivial⟩ ?_
              refine R_reti hc105 rfl rfl ?_
              refine R_s (f' := (39, [some (vR 88), some (vI t), some (vI d), some (vI n)], [vI (-7)], LAY (u (u (shA A) 87 (wr (A 87) 7 ((rd (A 87) 7) + 1))) 89 (wr (A 87) 7 ((rd (A 87) 7) + 1))) (shF F), 0, 0)) hc123 0 rfl trivial ?_
              refine R_reti hc123 rfl rfl ?_
              first
                | (exfalso; omega; done)
                | exact ⟨rfl, (u A 87 (wr (A 87) 7 ((rd (A 87) 7) + 1))), F, rfl, rfl, REL_ref hR0 (by decide) (by decide)⟩
                | (have e9 : 6 * t + d = t * 6 + d := (by omega); exact ⟨(by rw [e9]), (u A 87 (wr (A 87) 7 ((rd (A 87) 7) + 1))), F, (by rw [e9]; rfl), rfl, REL_ref hR0 (by decide) (by decide)⟩)

theorem op_feed {c : Int} {A : Nat → List Int} {F : Nat → Int} (hR : REL c A F) (hc : c < 512) (b n : Int) (i_b : inI b) (i_n : inI n) : R 70 (0, L0 70 [vR 1, vI b, vI n], [], LAY (shA A) (shF F), 0, 0) (fun r G => (∃ x, r = some (vI x)) ∧ (∃ (A1 : Nat → List Int) (F1 : Nat → Int), G = LAY A1 F1 ∧ A1 0 = A 0) ∧ R 125 (0, L0 125 [vR 88, vI b, vI n], [], G, 0, 0) (fun r2 G2 => r2 = r ∧ ∃ (A' : Nat → List Int) (F' : Nat → Int), G2 = LAY (shA A') (shF F') ∧ A' 0 = A 0 ∧ REL (c + 1) A' F')) := by
  have hR0 := hR
  obtain ⟨hL, hPE, hTH, hTP, hDE, hLE, hNO, hAC, hRO, hRE⟩ := hR
  have j_b := i_b
  unfold inI at j_b
  have j_n := i_n
  unfold inI at j_n
  have h87 : (A 87).length = 9 := hL 87 (by decide)
  have h3 : (A 3).length = 30 := hL 3 (by decide)
  have h4 : (A 4).length = 30 := hL 4 (by decide)
  have h5 : (A 5).length = 30 := hL 5 (by decide)
  have h6 : (A 6).length = 30 := hL 6 (by decide)
  have h7 : (A 7).length = 30 := hL 7 (by decide)
  have h94 : (A 94).length = 30 := hL 94 (by decide)
  have h13 : (A 13).length = 10 := hL 13 (by decide)
  have h14 : (A 14).length = 10 := hL 14 (by decide)
  have h15 : (A 15).length = 10 := hL 15 (by decide)
  have h16 : (A 16).length = 60 := hL 16 (by decide)
  have h80 : (A 80).length = 30 := hL 80 (by decide)
  have h81 : (A 81).length = 30 := hL 81 (by decide)
  have h82 : (A 82).length = 30 := hL 82 (by decide)
  have h83 : (A 83).length = 30 := hL 83 (by decide)
  have h84 : (A 84).length = 30 := hL 84 (by decide)
  have h85 : (A 85).length = 8 := hL 85 (by decide)
  have h101 : (A 101).length = 38 := hL 101 (by decide)
  have h102 : (A 102).length = 90 := hL 102 (by decide)
  have h18 : (A 18).length = 120 := hL 18 (by decide)
  have r2 := REFU_at hRE (k := 2) (by decide) (by decide) hc
  have r3 := REFU_at hRE (k := 3) (by decide) (by decide) hc
  have r4 := REFU_at hRE (k := 4) (by decide) (by decide) hc
  have r5 := REFU_at hRE (k := 5) (by decide) (by decide) hc
  have r6 := REFU_at hRE (k := 6) (by decide) (by decide) hc
  have r7 := REFU_at hRE (k := 7) (by decide) (by decide) hc
  have r8 := REFU_at hRE (k := 8) (by decide) (by decide) hc
  obtain ⟨t1, t2, t3, t4, t5, t6⟩ := hTH
  obtain ⟨p1, p2, p3, p4, p5, p6⟩ := hPE
  refine R_s (P := True) (f' := (1, [some (vR 1), some (vI b), some (vI n)], [vI n], LAY (shA A) (shF F), 0, 0)) hc70 1 rfl trivial ?_
  refine R_if (t := 11) hc70 rfl rfl (fun (c1 : 0 ≤ n) => ?_) (fun (c1 : ¬ (0 ≤ n)) => ?_)
  · refine R_s (P := True) (f' := (13, [some (vR 1), some (vI b), some (vI n)], [vI 4, vI n], LAY (shA A) (shF F), 0, 0)) hc70 2 rfl trivial ?_
    refine R_ic (t := 23) hc70 rfl rfl (fun (c2 : n ≤ 4) => ?_) (fun (c2 : ¬ (n ≤ 4)) => ?_)
    · refine R_s (P := inI (120 - (F 5)) ∧ True) (f' := (34, [some (vR 1), some (vI b), some (vI n)], [vI (120 - (F 5)), vI n], LAY (shA A) (shF F), 0, 0)) hc70 6 rfl ⟨⟨by omega, by omega⟩, trivial⟩ ?_
      refine R_ic (t := 44) hc70 rfl rfl (fun (c3 : n ≤ 120 - (F 5)) => ?_) (fun (c3 : ¬ (n ≤ 120 - (F 5))) => ?_)
      · refine R_s (P := True) (f' := (50, [some (vR 1), some (vI b), some (vI n)], [vI n, vI b, vR 17], LAY (shA A) (shF F), 0, 0)) hc70 4 rfl trivial ?_
        refine R_cv hc70 rfl rfl ?_ (fun r G h => h)
        refine R_s (P := inI (n - 1) ∧ True) (f' := (5, [some (vR 17), some (vI b), some (vI n), some (vI (n - 1))], [vI (n - 1)], LAY (shA A) (shF F), 0, 0)) hc37 5 rfl ⟨⟨by omega, by omega⟩, trivial⟩ ?_
        refine R_if (t := 52) hc37 rfl rfl (fun (c4 : n - 1 < 0) => ?_) (fun (c4 : ¬ (n - 1 < 0)) => ?_)
        · refine R_retv hc37 rfl rfl ?_
          refine R_s (f' := (53, [some (vR 1), some (vI b), some (vI n)], [], LAY (shA A) (shF F), 0, 0)) hc70 0 rfl trivial ?_
          refine R_s (P := True) (f' := (60, [some (vR 1), some (vI b), some (vI n)], [vI (F 5)], LAY (shA A) (shF F), 0, 0)) hc70 3 rfl trivial ?_
          refine R_reti hc70 rfl rfl ⟨⟨_, rfl⟩, ⟨_, _, rfl, rfl⟩, ?_⟩
          refine R_s (P := True) (f' := (1, [some (vR 88), some (vI b), some (vI n), none], [vI n], LAY (shA A) (shF F), 0, 0)) hc125 1 rfl trivial ?_
          refine R_if (t := 11) hc125 rfl rfl (fun (_ : 0 ≤ n) => ?_) (fun (z : ¬ (0 ≤ n)) => absurd (show 0 ≤ n by omega) z)
          refine R_s (P := True) (f' := (13, [some (vR 88), some (vI b), some (vI n), none], [vI 4, vI n], LAY (shA A) (shF F), 0, 0)) hc125 2 rfl trivial ?_
          refine R_ic (t := 23) hc125 rfl rfl (fun (_ : n ≤ 4) => ?_) (fun (z : ¬ (n ≤ 4)) => absurd (show n ≤ 4 by omega) z)
          refine R_s (P := inI ((F 5) + n) ∧ True) (f' := (31, [some (vR 88), some (vI b), some (vI n), none], [vI 120, vI ((F 5) + n)], LAY (shA A) (shF F), 0, 0)) hc125 5 rfl ⟨⟨by omega, by omega⟩, trivial⟩ ?_
          refine R_ic (t := 41) hc125 rfl rfl (fun (_ : (F 5) + n ≤ 120) => ?_) (fun (z : ¬ ((F 5) + n ≤ 120)) => absurd (show (F 5) + n ≤ 120 by omega) z)
          refine R_s (P := inI (n - 1) ∧ True) (f' := (46, [some (vR 88), some (vI b), some (vI n), some (vI (n - 1))], [vI (n - 1)], LAY (shA A) (shF F), 0, 0)) hc125 5 rfl ⟨⟨by omega, by omega⟩, trivial⟩ ?_
          refine R_if (t := 84) hc125 rfl rfl (fun (_ : n - 1 < 0) => ?_) (fun (z : ¬ (n - 1 < 0)) => absurd (show n - 1 < 0 by omega) z)
          refine R_s (P := True) (f' := (88, [some (vR 88), some (vI b), some (vI n), some (vI (n - 1))], [vI (F 5)], LAY (shA A) (shF F), 0, 0)) hc125 2 rfl trivial ?_
          refine R_reti hc125 rfl rfl ?_
          first
            | (exfalso; omega; done)
            | exact ⟨rfl, A, F, rfl, rfl, REL_c hR0⟩
        · refine R_s (P := True) (f' := (14, [some (vR 17), some (vI b), some (vI n), some (vI (n - 1))], [vI 120, vI (F 5)], LAY (shA A) (shF F), 0, 0)) hc37 3 rfl trivial ?_
          refine R_ic (t := 52) hc37 rfl rfl (fun (c5 : 120 ≤ F 5) => ?_) (fun (c5 : ¬ (120 ≤ F 5)) => ?_)
          · refine R_retv hc37 rfl rfl ?_
            refine R_s (f' := (53, [some (vR 1), some (vI b), some (vI n)], [], LAY (shA A) (shF F), 0, 0)) hc70 0 rfl trivial ?_
            refine R_s (P := True) (f' := (60, [some (vR 1), some (vI b), some (vI n)], [vI (F 5)], LAY (shA A) (shF F), 0, 0)) hc70 3 rfl trivial ?_
            refine R_reti hc70 rfl rfl ⟨⟨_, rfl⟩, ⟨_, _, rfl, rfl⟩, ?_⟩
            refine R_s (P := True) (f' := (1, [some (vR 88), some (vI b), some (vI n), none], [vI n], LAY (shA A) (shF F), 0, 0)) hc125 1 rfl trivial ?_
            refine R_if (t := 11) hc125 rfl rfl (fun (_ : 0 ≤ n) => ?_) (fun (z : ¬ (0 ≤ n)) => absurd (show 0 ≤ n by omega) z)
            refine R_s (P := True) (f' := (13, [some (vR 88), some (vI b), some (vI n), none], [vI 4, vI n], LAY (shA A) (shF F), 0, 0)) hc125 2 rfl trivial ?_
            refine R_ic (t := 23) hc125 rfl rfl (fun (_ : n ≤ 4) => ?_) (fun (z : ¬ (n ≤ 4)) => absurd (show n ≤ 4 by omega) z)
            refine R_s (P := inI ((F 5) + n) ∧ True) (f' := (31, [some (vR 88), some (vI b), some (vI n), none], [vI 120, vI ((F 5) + n)], LAY (shA A) (shF F), 0, 0)) hc125 5 rfl ⟨⟨by omega, by omega⟩, trivial⟩ ?_
            refine R_ic (t := 41) hc125 rfl rfl (fun (_ : (F 5) + n ≤ 120) => ?_) (fun (z : ¬ ((F 5) + n ≤ 120)) => absurd (show (F 5) + n ≤ 120 by omega) z)
            refine R_s (P := inI (n - 1) ∧ True) (f' := (46, [some (vR 88), some (vI b), some (vI n), some (vI (n - 1))], [vI (n - 1)], LAY (shA A) (shF F), 0, 0)) hc125 5 rfl ⟨⟨by omega, by omega⟩, trivial⟩ ?_
            refine R_if (t := 84) hc125 rfl rfl (fun (z : n - 1 < 0) => absurd z (by omega)) (fun (_ : ¬ (n - 1 < 0)) => ?_)
            refine R_s (P := inI (8 * (n - 1)) ∧ (0 ≤ 8 * (n - 1) ∧ 8 * (n - 1) < 32) ∧ (255 = 1 ∨ 255 = 63 ∨ 255 = 255) ∧ (0 ≤ F 5 ∧ F 5 < ((A 18).length : Int)) ∧ inI ((F 5) + 1) ∧ inI (n - 1 + (-1)) ∧ True) (f' := (46, [some (vR 88), some (vI b), some (vI n), some (vI (n - 1 + (-1)))], [vI (n - 1 + (-1))], LAY (u (shA A) 106 (wr (A 18) (F 5) ((b / 2 ^ (8 * (n - 1) : Int).toNat) % (255 + 1)))) (u (shF F) 24 ((F 5) + 1)), 0, 0)) hc125 21 rfl ⟨⟨by omega, by omega⟩, ⟨by omega, by omega⟩, (by decide), ⟨by omega, by omega⟩, ⟨by omega, by omega⟩, ⟨by omega, by omega⟩, trivial⟩ ?_
            refine R_if (t := 84) hc125 rfl rfl (fun (c110 : n - 1 + (-1) < 0) => ?_) (fun (c110 : ¬ (n - 1 + (-1) < 0)) => ?_)
            · refine R_s (P := True) (f' := (88, [some (vR 88), some (vI b), some (vI n), some (vI (n - 1 + (-1)))], [vI ((F 5) + 1)], LAY (u (shA A) 106 (wr (A 18) (F 5) ((b / 2 ^ (8 * (n - 1) : Int).toNat) % (255 + 1)))) (u (shF F) 24 ((F 5) + 1)), 0, 0)) hc125 2 rfl trivial ?_
              refine R_reti hc125 rfl rfl ?_
              first
                | (exfalso; omega; done)
                | exact ⟨(by rw [show (F 5) + 1 = F 5 by omega]), A, F, rfl, rfl, REL_c hR0⟩
            · refine R_s (P := inI (8 * (n - 1 + (-1))) ∧ (0 ≤ 8 * (n - 1 + (-1)) ∧ 8 * (n - 1 + (-1)) < 32) ∧ (255 = 1 ∨ 255 = 63 ∨ 255 = 255) ∧ (0 ≤ (F 5) + 1 ∧ (F 5) + 1 < ((wr (A 18) (F 5) ((b / 2 ^ (8 * (n - 1) : Int).toNat) % (255 + 1))).length : Int)) ∧ inI (((F 5) + 1) + 1) ∧ inI (n - 1 + (-1) + (-1)) ∧ True) (f' := (46, [some (vR 88), some (vI b), some (vI n), some (vI (n - 1 + (-1) + (-1)))], [vI (n - 1 + (-1) + (-1))], LAY (u (shA A) 106 (wr (wr (A 18) (F 5) ((b / 2 ^ (8 * (n - 1) : Int).toNat) % (255 + 1))) ((F 5) + 1) ((b / 2 ^ (8 * (n - 1 + (-1)) : Int).toNat) % (255 + 1)))) (u (shF F) 24 (((F 5) + 1) + 1)), 0, 0)) hc125 21 rfl ⟨⟨by omega, by omega⟩, ⟨by omega, by omega⟩, (by decide), ⟨by omega, by simp only [wr_len]; omega⟩, ⟨by omega, by omega⟩, ⟨by omega, by omega⟩, trivial⟩ ?_
              refine R_if (t := 84) hc125 rfl rfl (fun (c111 : n - 1 + (-1) + (-1) < 0) => ?_) (fun (c111 : ¬ (n - 1 + (-1) + (-1) < 0)) => ?_)
              · refine R_s (P := True) (f' := (88, [some (vR 88), some (vI b), some (vI n), some (vI (n - 1 + (-1) + (-1)))], [vI (((F 5) + 1) + 1)], LAY (u (shA A) 106 (wr (wr (A 18) (F 5) ((b / 2 ^ (8 * (n - 1) : Int).toNat) % (255 + 1))) ((F 5) + 1) ((b / 2 ^ (8 * (n - 1 + (-1)) : Int).toNat) % (255 + 1)))) (u (shF F) 24 (((F 5) + 1) + 1)), 0, 0)) hc125 2 rfl trivial ?_
                refine R_reti hc125 rfl rfl ?_
                first
                  | (exfalso; omega; done)
                  | exact ⟨(by rw [show ((F 5) + 1) + 1 = F 5 by omega]), A, F, rfl, rfl, REL_c hR0⟩
              · refine R_s (P := inI (8 * (n - 1 + (-1) + (-1))) ∧ (0 ≤ 8 * (n - 1 + (-1) + (-1)) ∧ 8 * (n - 1 + (-1) + (-1)) < 32) ∧ (255 = 1 ∨ 255 = 63 ∨ 255 = 255) ∧ (0 ≤ ((F 5) + 1) + 1 ∧ ((F 5) + 1) + 1 < ((wr (wr (A 18) (F 5) ((b / 2 ^ (8 * (n - 1) : Int).toNat) % (255 + 1))) ((F 5) + 1) ((b / 2 ^ (8 * (n - 1 + (-1)) : Int).toNat) % (255 + 1))).length : Int)) ∧ inI ((((F 5) + 1) + 1) + 1) ∧ inI (n - 1 + (-1) + (-1) + (-1)) ∧ True) (f' := (46, [some (vR 88), some (vI b), some (vI n), some (vI (n - 1 + (-1) + (-1) + (-1)))], [vI (n - 1 + (-1) + (-1) + (-1))], LAY (u (shA A) 106 (wr (wr (wr (A 18) (F 5) ((b / 2 ^ (8 * (n - 1) : Int).toNat) % (255 + 1))) ((F 5) + 1) ((b / 2 ^ (8 * (n - 1 + (-1)) : Int).toNat) % (255 + 1))) (((F 5) + 1) + 1) ((b / 2 ^ (8 * (n - 1 + (-1) + (-1)) : Int).toNat) % (255 + 1)))) (u (shF F) 24 ((((F 5) + 1) + 1) + 1)), 0, 0)) hc125 21 rfl ⟨⟨by omega, by omega⟩, ⟨by omega, by omega⟩, (by decide), ⟨by omega, by simp only [wr_len]; omega⟩, ⟨by omega, by omega⟩, ⟨by omega, by omega⟩, trivial⟩ ?_
                refine R_if (t := 84) hc125 rfl rfl (fun (c112 : n - 1 + (-1) + (-1) + (-1) < 0) => ?_) (fun (c112 : ¬ (n - 1 + (-1) + (-1) + (-1) < 0)) => ?_)
                · refine R_s (P := True) (f' := (88, [some (vR 88), some (vI b), some (vI n), some (vI (n - 1 + (-1) + (-1) + (-1)))], [vI ((((F 5) + 1) + 1) + 1)], LAY (u (shA A) 106 (wr (wr (wr (A 18) (F 5) ((b / 2 ^ (8 * (n - 1) : Int).toNat) % (255 + 1))) ((F 5) + 1) ((b / 2 ^ (8 * (n - 1 + (-1)) : Int).toNat) % (255 + 1))) (((F 5) + 1) + 1) ((b / 2 ^ (8 * (n - 1 + (-1) + (-1)) : Int).toNat) % (255 + 1)))) (u (shF F) 24 ((((F 5) + 1) + 1) + 1)), 0, 0)) hc125 2 rfl trivial ?_
                  refine R_reti hc125 rfl rfl ?_
                  first
                    | (exfalso; omega; done)
                    | exact ⟨(by rw [show (((F 5) + 1) + 1) + 1 = F 5 by omega]), A, F, rfl, rfl, REL_c hR0⟩
                · refine R_s (P := inI (8 * (n - 1 + (-1) + (-1) + (-1))) ∧ (0 ≤ 8 * (n - 1 + (-1) + (-1) + (-1)) ∧ 8 * (n - 1 + (-1) + (-1) + (-1)) < 32) ∧ (255 = 1 ∨ 255 = 63 ∨ 255 = 255) ∧ (0 ≤ (((F 5) + 1) + 1) + 1 ∧ (((F 5) + 1) + 1) + 1 < ((wr (wr (wr (A 18) (F 5) ((b / 2 ^ (8 * (n - 1) : Int).toNat) % (255 + 1))) ((F 5) + 1) ((b / 2 ^ (8 * (n - 1 + (-1)) : Int).toNat) % (255 + 1))) (((F 5) + 1) + 1) ((b / 2 ^ (8 * (n - 1 + (-1) + (-1)) : Int).toNat) % (255 + 1))).length : Int)) ∧ inI (((((F 5) + 1) + 1) + 1) + 1) ∧ inI (n - 1 + (-1) + (-1) + (-1) + (-1)) ∧ True) (f' := (46, [some (vR 88), some (vI b), some (vI n), some (vI (n - 1 + (-1) + (-1) + (-1) + (-1)))], [vI (n - 1 + (-1) + (-1) + (-1) + (-1))], LAY (u (shA A) 106 (wr (wr (wr (wr (A 18) (F 5) ((b / 2 ^ (8 * (n - 1) : Int).toNat) % (255 + 1))) ((F 5) + 1) ((b / 2 ^ (8 * (n - 1 + (-1)) : Int).toNat) % (255 + 1))) (((F 5) + 1) + 1) ((b / 2 ^ (8 * (n - 1 + (-1) + (-1)) : Int).toNat) % (255 + 1))) ((((F 5) + 1) + 1) + 1) ((b / 2 ^ (8 * (n - 1 + (-1) + (-1) + (-1)) : Int).toNat) % (255 + 1)))) (u (shF F) 24 (((((F 5) + 1) + 1) + 1) + 1)), 0, 0)) hc125 21 rfl ⟨⟨by omega, by omega⟩, ⟨by omega, by omega⟩, (by decide), ⟨by omega, by simp only [wr_len]; omega⟩, ⟨by omega, by omega⟩, ⟨by omega, by omega⟩, trivial⟩ ?_
                  refine R_if (t := 84) hc125 rfl rfl (fun (_ : n - 1 + (-1) + (-1) + (-1) + (-1) < 0) => ?_) (fun (z : ¬ (n - 1 + (-1) + (-1) + (-1) + (-1) < 0)) => absurd (show n - 1 + (-1) + (-1) + (-1) + (-1) < 0 by omega) z)
                  refine R_s (P := True) (f' := (88, [some (vR 88), some (vI b), some (vI n), some (vI (n - 1 + (-1) + (-1) + (-1) + (-1)))], [vI (((((F 5) + 1) + 1) + 1) + 1)], LAY (u (shA A) 106 (wr (wr (wr (wr (A 18) (F 5) ((b / 2 ^ (8 * (n - 1) : Int).toNat) % (255 + 1))) ((F 5) + 1) ((b / 2 ^ (8 * (n - 1 + (-1)) : Int).toNat) % (255 + 1))) (((F 5) + 1) + 1) ((b / 2 ^ (8 * (n - 1 + (-1) + (-1)) : Int).toNat) % (255 + 1))) ((((F 5) + 1) + 1) + 1) ((b / 2 ^ (8 * (n - 1 + (-1) + (-1) + (-1)) : Int).toNat) % (255 + 1)))) (u (shF F) 24 (((((F 5) + 1) + 1) + 1) + 1)), 0, 0)) hc125 2 rfl trivial ?_
                  refine R_reti hc125 rfl rfl ?_
                  first
                    | (exfalso; omega; done)
                    | exact ⟨(by rw [show ((((F 5) + 1) + 1) + 1) + 1 = F 5 by omega]), A, F, rfl, rfl, REL_c hR0⟩
          · refine R_s (P := inI (8 * (n - 1)) ∧ (0 ≤ 8 * (n - 1) ∧ 8 * (n - 1) < 32) ∧ (255 = 1 ∨ 255 = 63 ∨ 255 = 255) ∧ (0 ≤ F 5 ∧ F 5 < ((A 18).length : Int)) ∧ inI ((F 5) + 1) ∧ inI (n - 1 + (-1)) ∧ True) (f' := (5, [some (vR 17), some (vI b), some (vI n), some (vI (n - 1 + (-1)))], [vI (n - 1 + (-1))], LAY (u (shA A) 18 (wr (A 18) (F 5) ((b / 2 ^ (8 * (n - 1) : Int).toNat) % (255 + 1)))) (u (shF F) 5 ((F 5) + 1)), 0, 0)) hc37 21 rfl ⟨⟨by omega, by omega⟩, ⟨by omega, by omega⟩, (by decide), ⟨by omega, by omega⟩, ⟨by omega, by omega⟩, ⟨by omega, by omega⟩, trivial⟩ ?_
            refine R_if (t := 52) hc37 rfl rfl (fun (c6 : n - 1 + (-1) < 0) => ?_) (fun (c6 : ¬ (n - 1 + (-1) < 0)) => ?_)
            · refine R_retv hc37 rfl rfl ?_
              refine R_s (f' := (53, [some (vR 1), some (vI b), some (vI n)], [], LAY (u (shA A) 18 (wr (A 18) (F 5) ((b / 2 ^ (8 * (n - 1) : Int).toNat) % (255 + 1)))) (u (shF F) 5 ((F 5) + 1)), 0, 0)) hc70 0 rfl trivial ?_
              refine R_s (P := True) (f' := (60, [some (vR 1), some (vI b), some (vI n)], [vI ((F 5) + 1)], LAY (u (shA A) 18 (wr (A 18) (F 5) ((b / 2 ^ (8 * (n - 1) : Int).toNat) % (255 + 1)))) (u (shF F) 5 ((F 5) + 1)), 0, 0)) hc70 3 rfl trivial ?_
              refine R_reti hc70 rfl rfl ⟨⟨_, rfl⟩, ⟨_, _, rfl, rfl⟩, ?_⟩
              refine R_s (P := True) (f' := (1, [some (vR 88), some (vI b), some (vI n), none], [vI n], LAY (u (shA A) 18 (wr (A 18) (F 5) ((b / 2 ^ (8 * (n - 1) : Int).toNat) % (255 + 1)))) (u (shF F) 5 ((F 5) + 1)), 0, 0)) hc125 1 rfl trivial ?_
              refine R_if (t := 11) hc125 rfl rfl (fun (_ : 0 ≤ n) => ?_) (fun (z : ¬ (0 ≤ n)) => absurd (show 0 ≤ n by omega) z)
              refine R_s (P := True) (f' := (13, [some (vR 88), some (vI b), some (vI n), none], [vI 4, vI n], LAY (u (shA A) 18 (wr (A 18) (F 5) ((b / 2 ^ (8 * (n - 1) : Int).toNat) % (255 + 1)))) (u (shF F) 5 ((F 5) + 1)), 0, 0)) hc125 2 rfl trivial ?_
              refine R_ic (t := 23) hc125 rfl rfl (fun (_ : n ≤ 4) => ?_) (fun (z : ¬ (n ≤ 4)) => absurd (show n ≤ 4 by omega) z)
              refine R_s (P := inI ((F 5) + n) ∧ True) (f' := (31, [some (vR 88), some (vI b), some (vI n), none], [vI 120, vI ((F 5) + n)], LAY (u (shA A) 18 (wr (A 18) (F 5) ((b / 2 ^ (8 * (n - 1) : Int).toNat) % (255 + 1)))) (u (shF F) 5 ((F 5) + 1)), 0, 0)) hc125 5 rfl ⟨⟨by omega, by omega⟩, trivial⟩ ?_
              refine R_ic (t := 41) hc125 rfl rfl (fun (_ : (F 5) + n ≤ 120) => ?_) (fun (z : ¬ ((F 5) + n ≤ 120)) => absurd (show (F 5) + n ≤ 120 by omega) z)
              refine R_s (P := inI (n - 1) ∧ True) (f' := (46, [some (vR 88), some (vI b), some (vI n), some (vI (n - 1))], [vI (n - 1)], LAY (u (shA A) 18 (wr (A 18) (F 5) ((b / 2 ^ (8 * (n - 1) : Int).toNat) % (255 + 1)))) (u (shF F) 5 ((F 5) + 1)), 0, 0)) hc125 5 rfl ⟨⟨by omega, by omega⟩, trivial⟩ ?_
              refine R_if (t := 84) hc125 rfl rfl (fun (z : n - 1 < 0) => absurd z (by omega)) (fun (_ : ¬ (n - 1 < 0)) => ?_)
              refine R_s (P := inI (8 * (n - 1)) ∧ (0 ≤ 8 * (n - 1) ∧ 8 * (n - 1) < 32) ∧ (255 = 1 ∨ 255 = 63 ∨ 255 = 255) ∧ (0 ≤ F 5 ∧ F 5 < ((A 18).length : Int)) ∧ inI ((F 5) + 1) ∧ inI (n - 1 + (-1)) ∧ True) (f' := (46, [some (vR 88), some (vI b), some (vI n), some (vI (n - 1 + (-1)))], [vI (n - 1 + (-1))], LAY (u (u (shA A) 18 (wr (A 18) (F 5) ((b / 2 ^ (8 * (n - 1) : Int).toNat) % (255 + 1)))) 106 (wr (A 18) (F 5) ((b / 2 ^ (8 * (n - 1) : Int).toNat) % (255 + 1)))) (u (u (shF F) 5 ((F 5) + 1)) 24 ((F 5) + 1)), 0, 0)) hc125 21 rfl ⟨⟨by omega, by omega⟩, ⟨by omega, by omega⟩, (by decide), ⟨by omega, by omega⟩, ⟨by omega, by omega⟩, ⟨by omega, by omega⟩, trivial⟩ ?_
              refine R_if (t := 84) hc125 rfl rfl (fun (_ : n - 1 + (-1) < 0) => ?_) (fun (z : ¬ (n - 1 + (-1) < 0)) => absurd (show n - 1 + (-1) < 0 by omega) z)
              refine R_s (P := True) (f' := (88, [some (vR 88), some (vI b), some (vI n), some (vI (n - 1 + (-1)))], [vI ((F 5) + 1)], LAY (u (u (shA A) 18 (wr (A 18) (F 5) ((b / 2 ^ (8 * (n - 1) : Int).toNat) % (255 + 1)))) 106 (wr (A 18) (F 5) ((b / 2 ^ (8 * (n - 1) : Int).toNat) % (255 + 1)))) (u (u (shF F) 5 ((F 5) + 1)) 24 ((F 5) + 1)), 0, 0)) hc125 2 rfl trivial ?_
              refine R_reti hc125 rfl rfl ?_
              first
                | (exfalso; omega; done)
                | exact ⟨rfl, (u A 18 (wr (A 18) (F 5) ((b / 2 ^ (8 * (n - 1) : Int).toNat) % (255 + 1)))), (u F 5 ((F 5) + 1)), rfl, rfl, (REL_tape hR0 (by simp only [wr_len]) (by omega))⟩
            · refine R_s (P := True) (f' := (14, [some (vR 17), some (vI b), some (vI n), some (vI (n - 1 + (-1)))], [vI 120, vI ((F 5) + 1)], LAY (u (shA A) 18 (wr (A 18) (F 5) ((b / 2 ^ (8 * (n - 1) : Int).toNat) % (255 + 1)))) (u (shF F) 5 ((F 5) + 1)), 0, 0)) hc37 3 rfl trivial ?_
              refine R_ic (t := 52) hc37 rfl rfl (fun (c7 : 120 ≤ (F 5) + 1) => ?_) (fun (c7 : ¬ (120 ≤ (F 5) + 1)) => ?_)
              · refine R_retv hc37 rfl rfl ?_
                refine R_s (f' := (53, [some (vR 1), some (vI b), some (vI n)], [], LAY (u (shA A) 18 (wr (A 18) (F 5) ((b / 2 ^ (8 * (n - 1) : Int).toNat) % (255 + 1)))) (u (shF F) 5 ((F 5) + 1)), 0, 0)) hc70 0 rfl trivial ?_
                refine R_s (P := True) (f' := (60, [some (vR 1), some (vI b), some (vI n)], [vI ((F 5) + 1)], LAY (u (shA A) 18 (wr (A 18) (F 5) ((b / 2 ^ (8 * (n - 1) : Int).toNat) % (255 + 1)))) (u (shF F) 5 ((F 5) + 1)), 0, 0)) hc70 3 rfl trivial ?_
                refine R_reti hc70 rfl rfl ⟨⟨_, rfl⟩, ⟨_, _, rfl, rfl⟩, ?_⟩
                refine R_s (P := True) (f' := (1, [some (vR 88), some (vI b), some (vI n), none], [vI n], LAY (u (shA A) 18 (wr (A 18) (F 5) ((b / 2 ^ (8 * (n - 1) : Int).toNat) % (255 + 1)))) (u (shF F) 5 ((F 5) + 1)), 0, 0)) hc125 1 rfl trivial ?_
                refine R_if (t := 11) hc125 rfl rfl (fun (_ : 0 ≤ n) => ?_) (fun (z : ¬ (0 ≤ n)) => absurd (show 0 ≤ n by omega) z)
                refine R_s (P := True) (f' := (13, [some (vR 88), some (vI b), some (vI n), none], [vI 4, vI n], LAY (u (shA A) 18 (wr (A 18) (F 5) ((b / 2 ^ (8 * (n - 1) : Int).toNat) % (255 + 1)))) (u (shF F) 5 ((F 5) + 1)), 0, 0)) hc125 2 rfl trivial ?_
                refine R_ic (t := 23) hc125 rfl rfl (fun (_ : n ≤ 4) => ?_) (fun (z : ¬ (n ≤ 4)) => absurd (show n ≤ 4 by omega) z)
                refine R_s (P := inI ((F 5) + n) ∧ True) (f' := (31, [some (vR 88), some (vI b), some (vI n), none], [vI 120, vI ((F 5) + n)], LAY (u (shA A) 18 (wr (A 18) (F 5) ((b / 2 ^ (8 * (n - 1) : Int).toNat) % (255 + 1)))) (u (shF F) 5 ((F 5) + 1)), 0, 0)) hc125 5 rfl ⟨⟨by omega, by omega⟩, trivial⟩ ?_
                refine R_ic (t := 41) hc125 rfl rfl (fun (_ : (F 5) + n ≤ 120) => ?_) (fun (z : ¬ ((F 5) + n ≤ 120)) => absurd (show (F 5) + n ≤ 120 by omega) z)
                refine R_s (P := inI (n - 1) ∧ True) (f' := (46, [some (vR 88), some (vI b), some (vI n), some (vI (n - 1))], [vI (n - 1)], LAY (u (shA A) 18 (wr (A 18) (F 5) ((b / 2 ^ (8 * (n - 1) : Int).toNat) % (255 + 1)))) (u (shF F) 5 ((F 5) + 1)), 0, 0)) hc125 5 rfl ⟨⟨by omega, by omega⟩, trivial⟩ ?_
                refine R_if (t := 84) hc125 rfl rfl (fun (z : n - 1 < 0) => absurd z (by omega)) (fun (_ : ¬ (n - 1 < 0)) => ?_)
                refine R_s (P := inI (8 * (n - 1)) ∧ (0 ≤ 8 * (n - 1) ∧ 8 * (n - 1) < 32) ∧ (255 = 1 ∨ 255 = 63 ∨ 255 = 255) ∧ (0 ≤ F 5 ∧ F 5 < ((A 18).length : Int)) ∧ inI ((F 5) + 1) ∧ inI (n - 1 + (-1)) ∧ True) (f' := (46, [some (vR 88), some (vI b), some (vI n), some (vI (n - 1 + (-1)))], [vI (n - 1 + (-1))], LAY (u (u (shA A) 18 (wr (A 18) (F 5) ((b / 2 ^ (8 * (n - 1) : Int).toNat) % (255 + 1)))) 106 (wr (A 18) (F 5) ((b / 2 ^ (8 * (n - 1) : Int).toNat) % (255 + 1)))) (u (u (shF F) 5 ((F 5) + 1)) 24 ((F 5) + 1)), 0, 0)) hc125 21 rfl ⟨⟨by omega, by omega⟩, ⟨by omega, by omega⟩, (by decide), ⟨by omega, by omega⟩, ⟨by omega, by omega⟩, ⟨by omega, by omega⟩, trivial⟩ ?_
                refine R_if (t := 84) hc125 rfl rfl (fun (z : n - 1 + (-1) < 0) => absurd z (by omega)) (fun (_ : ¬ (n - 1 + (-1) < 0)) => ?_)
                refine R_s (P := inI (8 * (n - 1 + (-1))) ∧ (0 ≤ 8 * (n - 1 + (-1)) ∧ 8 * (n - 1 + (-1)) < 32) ∧ (255 = 1 ∨ 255 = 63 ∨ 255 = 255) ∧ (0 ≤ (F 5) + 1 ∧ (F 5) + 1 < ((wr (A 18) (F 5) ((b / 2 ^ (8 * (n - 1) : Int).toNat) % (255 + 1))).length : Int)) ∧ inI (((F 5) + 1) + 1) ∧ inI (n - 1 + (-1) + (-1)) ∧ True) (f' := (46, [some (vR 88), some (vI b), some (vI n), some (vI (n - 1 + (-1) + (-1)))], [vI (n - 1 + (-1) + (-1))], LAY (u (u (shA A) 18 (wr (A 18) (F 5) ((b / 2 ^ (8 * (n - 1) : Int).toNat) % (255 + 1)))) 106 (wr (wr (A 18) (F 5) ((b / 2 ^ (8 * (n - 1) : Int).toNat) % (255 + 1))) ((F 5) + 1) ((b / 2 ^ (8 * (n - 1 + (-1)) : Int).toNat) % (255 + 1)))) (u (u (shF F) 5 ((F 5) + 1)) 24 (((F 5) + 1) + 1)), 0, 0)) hc125 21 rfl ⟨⟨by omega, by omega⟩, ⟨by omega, by omega⟩, (by decide), ⟨by omega, by simp only [wr_len]; omega⟩, ⟨by omega, by omega⟩, ⟨by omega, by omega⟩, trivial⟩ ?_
                refine R_if (t := 84) hc125 rfl rfl (fun (c113 : n - 1 + (-1) + (-1) < 0) => ?_) (fun (c113 : ¬ (n - 1 + (-1) + (-1) < 0)) => ?_)
                · refine R_s (P := True) (f' := (88, [some (vR 88), some (vI b), some (vI n), some (vI (n - 1 + (-1) + (-1)))], [vI (((F 5) + 1) + 1)], LAY (u (u (shA A) 18 (wr (A 18) (F 5) ((b / 2 ^ (8 * (n - 1) : Int).toNat) % (255 + 1)))) 106 (wr (wr (A 18) (F 5) ((b / 2 ^ (8 * (n - 1) : Int).toNat) % (255 + 1))) ((F 5) + 1) ((b / 2 ^ (8 * (n - 1 + (-1)) : Int).toNat) % (255 + 1)))) (u (u (shF F) 5 ((F 5) + 1)) 24 (((F 5) + 1) + 1)), 0, 0)) hc125 2 rfl trivial ?_
                  refine R_reti hc125 rfl rfl ?_
                  first
                    | (exfalso; omega; done)
                    | exact ⟨(by rw [show ((F 5) + 1) + 1 = (F 5) + 1 by omega]), (u A 18 (wr (A 18) (F 5) ((b / 2 ^ (8 * (n - 1) : Int).toNat) % (255 + 1)))), (u F 5 ((F 5) + 1)), rfl, rfl, (REL_tape hR0 (by simp only [wr_len]) (by omega))⟩
                · refine R_s (P := inI (8 * (n - 1 + (-1) + (-1))) ∧ (0 ≤ 8 * (n - 1 + (-1) + (-1)) ∧ 8 * (n - 1 + (-1) + (-1)) < 32) ∧ (255 = 1 ∨ 255 = 63 ∨ 255 = 255) ∧ (0 ≤ ((F 5) + 1) + 1 ∧ ((F 5) + 1) + 1 < ((wr (wr (A 18) (F 5) ((b / 2 ^ (8 * (n - 1) : Int).toNat) % (255 + 1))) ((F 5) + 1) ((b / 2 ^ (8 * (n - 1 + (-1)) : Int).toNat) % (255 + 1))).length : Int)) ∧ inI ((((F 5) + 1) + 1) + 1) ∧ inI (n - 1 + (-1) + (-1) + (-1)) ∧ True) (f' := (46, [some (vR 88), some (vI b), some (vI n), some (vI (n - 1 + (-1) + (-1) + (-1)))], [vI (n - 1 + (-1) + (-1) + (-1))], LAY (u (u (shA A) 18 (wr (A 18) (F 5) ((b / 2 ^ (8 * (n - 1) : Int).toNat) % (255 + 1)))) 106 (wr (wr (wr (A 18) (F 5) ((b / 2 ^ (8 * (n - 1) : Int).toNat) % (255 + 1))) ((F 5) + 1) ((b / 2 ^ (8 * (n - 1 + (-1)) : Int).toNat) % (255 + 1))) (((F 5) + 1) + 1) ((b / 2 ^ (8 * (n - 1 + (-1) + (-1)) : Int).toNat) % (255 + 1)))) (u (u (shF F) 5 ((F 5) + 1)) 24 ((((F 5) + 1) + 1) + 1)), 0, 0)) hc125 21 rfl ⟨⟨by omega, by omega⟩, ⟨by omega, by omega⟩, (by decide), ⟨by omega, by simp only [wr_len]; omega⟩, ⟨by omega, by omega⟩, ⟨by omega, by omega⟩, trivial⟩ ?_
                  refine R_if (t := 84) hc125 rfl rfl (fun (c114 : n - 1 + (-1) + (-1) + (-1) < 0) => ?_) (fun (c114 : ¬ (n - 1 + (-1) + (-1) + (-1) < 0)) => ?_)
                  · refine R_s (P := True) (f' := (88, [some (vR 88), some (vI b), some (vI n), some (vI (n - 1 + (-1) + (-1) + (-1)))], [vI ((((F 5) + 1) + 1) + 1)], LAY (u (u (shA A) 18 (wr (A 18) (F 5) ((b / 2 ^ (8 * (n - 1) : Int).toNat) % (255 + 1)))) 106 (wr (wr (wr (A 18) (F 5) ((b / 2 ^ (8 * (n - 1) : Int).toNat) % (255 + 1))) ((F 5) + 1) ((b / 2 ^ (8 * (n - 1 + (-1)) : Int).toNat) % (255 + 1))) (((F 5) + 1) + 1) ((b / 2 ^ (8 * (n - 1 + (-1) + (-1)) : Int).toNat) % (255 + 1)))) (u (u (shF F) 5 ((F 5) + 1)) 24 ((((F 5) + 1) + 1) + 1)), 0, 0)) hc125 2 rfl trivial ?_
                    refine R_reti hc125 rfl rfl ?_
                    first
                      | (exfalso; omega; done)
                      | exact ⟨(by rw [show (((F 5) + 1) + 1) + 1 = (F 5) + 1 by omega]), (u A 18 (wr (A 18) (F 5) ((b / 2 ^ (8 * (n - 1) : Int).toNat) % (255 + 1)))), (u F 5 ((F 5) + 1)), rfl, rfl, (REL_tape hR0 (by simp only [wr_len]) (by omega))⟩
                  · refine R_s (P := inI (8 * (n - 1 + (-1) + (-1) + (-1))) ∧ (0 ≤ 8 * (n - 1 + (-1) + (-1) + (-1)) ∧ 8 * (n - 1 + (-1) + (-1) + (-1)) < 32) ∧ (255 = 1 ∨ 255 = 63 ∨ 255 = 255) ∧ (0 ≤ (((F 5) + 1) + 1) + 1 ∧ (((F 5) + 1) + 1) + 1 < ((wr (wr (wr (A 18) (F 5) ((b / 2 ^ (8 * (n - 1) : Int).toNat) % (255 + 1))) ((F 5) + 1) ((b / 2 ^ (8 * (n - 1 + (-1)) : Int).toNat) % (255 + 1))) (((F 5) + 1) + 1) ((b / 2 ^ (8 * (n - 1 + (-1) + (-1)) : Int).toNat) % (255 + 1))).length : Int)) ∧ inI (((((F 5) + 1) + 1) + 1) + 1) ∧ inI (n - 1 + (-1) + (-1) + (-1) + (-1)) ∧ True) (f' := (46, [some (vR 88), some (vI b), some (vI n), some (vI (n - 1 + (-1) + (-1) + (-1) + (-1)))], [vI (n - 1 + (-1) + (-1) + (-1) + (-1))], LAY (u (u (shA A) 18 (wr (A 18) (F 5) ((b / 2 ^ (8 * (n - 1) : Int).toNat) % (255 + 1)))) 106 (wr (wr (wr (wr (A 18) (F 5) ((b / 2 ^ (8 * (n - 1) : Int).toNat) % (255 + 1))) ((F 5) + 1) ((b / 2 ^ (8 * (n - 1 + (-1)) : Int).toNat) % (255 + 1))) (((F 5) + 1) + 1) ((b / 2 ^ (8 * (n - 1 + (-1) + (-1)) : Int).toNat) % (255 + 1))) ((((F 5) + 1) + 1) + 1) ((b / 2 ^ (8 * (n - 1 + (-1) + (-1) + (-1)) : Int).toNat) % (255 + 1)))) (u (u (shF F) 5 ((F 5) + 1)) 24 (((((F 5) + 1) + 1) + 1) + 1)), 0, 0)) hc125 21 rfl ⟨⟨by omega, by omega⟩, ⟨by omega, by omega⟩, (by decide), ⟨by omega, by simp only [wr_len]; omega⟩, ⟨by omega, by omega⟩, ⟨by omega, by omega⟩, trivial⟩ ?_
                    refine R_if (t := 84) hc125 rfl rfl (fun (_ : n - 1 + (-1) + (-1) + (-1) + (-1) < 0) => ?_) (fun (z : ¬ (n - 1 + (-1) + (-1) + (-1) + (-1) < 0)) => absurd (show n - 1 + (-1) + (-1) + (-1) + (-1) < 0 by omega) z)
                    refine R_s (P := True) (f' := (88, [some (vR 88), some (vI b), some (vI n), some (vI (n - 1 + (-1) + (-1) + (-1) + (-1)))], [vI (((((F 5) + 1) + 1) + 1) + 1)], LAY (u (u (shA A) 18 (wr (A 18) (F 5) ((b / 2 ^ (8 * (n - 1) : Int).toNat) % (255 + 1)))) 106 (wr (wr (wr (wr (A 18) (F 5) ((b / 2 ^ (8 * (n - 1) : Int).toNat) % (255 + 1))) ((F 5) + 1) ((b / 2 ^ (8 * (n - 1 + (-1)) : Int).toNat) % (255 + 1))) (((F 5) + 1) + 1) ((b / 2 ^ (8 * (n - 1 + (-1) + (-1)) : Int).toNat) % (255 + 1))) ((((F 5) + 1) + 1) + 1) ((b / 2 ^ (8 * (n - 1 + (-1) + (-1) + (-1)) : Int).toNat) % (255 + 1)))) (u (u (shF F) 5 ((F 5) + 1)) 24 (((((F 5) + 1) + 1) + 1) + 1)), 0, 0)) hc125 2 rfl trivial ?_
                    refine R_reti hc125 rfl rfl ?_
                    first
                      | (exfalso; omega; done)
                      | exact ⟨(by rw [show ((((F 5) + 1) + 1) + 1) + 1 = (F 5) + 1 by omega]), (u A 18 (wr (A 18) (F 5) ((b / 2 ^ (8 * (n - 1) : Int).toNat) % (255 + 1)))), (u F 5 ((F 5) + 1)), rfl, rfl, (REL_tape hR0 (by simp only [wr_len]) (by omega))⟩
              · refine R_s (P := inI (8 * (n - 1 + (-1))) ∧ (0 ≤ 8 * (n - 1 + (-1)) ∧ 8 * (n - 1 + (-1)) < 32) ∧ (255 = 1 ∨ 255 = 63 ∨ 255 = 255) ∧ (0 ≤ (F 5) + 1 ∧ (F 5) + 1 < ((wr (A 18) (F 5) ((b / 2 ^ (8 * (n - 1) : Int).toNat) % (255 + 1))).length : Int)) ∧ inI (((F 5) + 1) + 1) ∧ inI (n - 1 + (-1) + (-1)) ∧ True) (f' := (5, [some (vR 17), some (vI b), some (vI n), some (vI (n - 1 + (-1) + (-1)))], [vI (n - 1 + (-1) + (-1))], LAY (u (shA A) 18 (wr (wr (A 18) (F 5) ((b / 2 ^ (8 * (n - 1) : Int).toNat) % (255 + 1))) ((F 5) + 1) ((b / 2 ^ (8 * (n - 1 + (-1)) : Int).toNat) % (255 + 1)))) (u (shF F) 5 (((F 5) + 1) + 1)), 0, 0)) hc37 21 rfl ⟨⟨by omega, by omega⟩, ⟨by omega, by omega⟩, (by decide), ⟨by omega, by simp only [wr_len]; omega⟩, ⟨by omega, by omega⟩, ⟨by omega, by omega⟩, trivial⟩ ?_
                refine R_if (t := 52) hc37 rfl rfl (fun (c8 : n - 1 + (-1) + (-1) < 0) => ?_) (fun (c8 : ¬ (n - 1 + (-1) + (-1) < 0)) => ?_)
                · refine R_retv hc37 rfl rfl ?_
                  refine R_s (f' := (53, [some (vR 1), some (vI b), some (vI n)], [], LAY (u (shA A) 18 (wr (wr (A 18) (F 5) ((b / 2 ^ (8 * (n - 1) : Int).toNat) % (255 + 1))) ((F 5) + 1) ((b / 2 ^ (8 * (n - 1 + (-1)) : Int).toNat) % (255 + 1)))) (u (shF F) 5 (((F 5) + 1) + 1)), 0, 0)) hc70 0 rfl trivial ?_
                  refine R_s (P := True) (f' := (60, [some (vR 1), some (vI b), some (vI n)], [vI (((F 5) + 1) + 1)], LAY (u (shA A) 18 (wr (wr (A 18) (F 5) ((b / 2 ^ (8 * (n - 1) : Int).toNat) % (255 + 1))) ((F 5) + 1) ((b / 2 ^ (8 * (n - 1 + (-1)) : Int).toNat) % (255 + 1)))) (u (shF F) 5 (((F 5) + 1) + 1)), 0, 0)) hc70 3 rfl trivial ?_
                  refine R_reti hc70 rfl rfl ⟨⟨_, rfl⟩, ⟨_, _, rfl, rfl⟩, ?_⟩
                  refine R_s (P := True) (f' := (1, [some (vR 88), some (vI b), some (vI n), none], [vI n], LAY (u (shA A) 18 (wr (wr (A 18) (F 5) ((b / 2 ^ (8 * (n - 1) : Int).toNat) % (255 + 1))) ((F 5) + 1) ((b / 2 ^ (8 * (n - 1 + (-1)) : Int).toNat) % (255 + 1)))) (u (shF F) 5 (((F 5) + 1) + 1)), 0, 0)) hc125 1 rfl trivial ?_
                  refine R_if (t := 11) hc125 rfl rfl (fun (_ : 0 ≤ n) => ?_) (fun (z : ¬ (0 ≤ n)) => absurd (show 0 ≤ n by omega) z)
                  refine R_s (P := True) (f' := (13, [some (vR 88), some (vI b), some (vI n), none], [vI 4, vI n], LAY (u (shA A) 18 (wr (wr (A 18) (F 5) ((b / 2 ^ (8 * (n - 1) : Int).toNat) % (255 + 1))) ((F 5) + 1) ((b / 2 ^ (8 * (n - 1 + (-1)) : Int).toNat) % (255 + 1)))) (u (shF F) 5 (((F 5) + 1) + 1)), 0, 0)) hc125 2 rfl trivial ?_
                  refine R_ic (t := 23) hc125 rfl rfl (fun (_ : n ≤ 4) => ?_) (fun (z : ¬ (n ≤ 4)) => absurd (show n ≤ 4 by omega) z)
                  refine R_s (P := inI ((F 5) + n) ∧ True) (f' := (31, [some (vR 88), some (vI b), some (vI n), none], [vI 120, vI ((F 5) + n)], LAY (u (shA A) 18 (wr (wr (A 18) (F 5) ((b / 2 ^ (8 * (n - 1) : Int).toNat) % (255 + 1))) ((F 5) + 1) ((b / 2 ^ (8 * (n - 1 + (-1)) : Int).toNat) % (255 + 1)))) (u (shF F) 5 (((F 5) + 1) + 1)), 0, 0)) hc125 5 rfl ⟨⟨by omega, by omega⟩, trivial⟩ ?_
                  refine R_ic (t := 41) hc125 rfl rfl (fun (_ : (F 5) + n ≤ 120) => ?_) (fun (z : ¬ ((F 5) + n ≤ 120)) => absurd (show (F 5) + n ≤ 120 by omega) z)
                  refine R_s (P := inI (n - 1) ∧ True) (f' := (46, [some (vR 88), some (vI b), some (vI n), some (vI (n - 1))], [vI (n - 1)], LAY (u (shA A) 18 (wr (wr (A 18) (F 5) ((b / 2 ^ (8 * (n - 1) : Int).toNat) % (255 + 1))) ((F 5) + 1) ((b / 2 ^ (8 * (n - 1 + (-1)) : Int).toNat) % (255 + 1)))) (u (shF F) 5 (((F 5) + 1) + 1)), 0, 0)) hc125 5 rfl ⟨⟨by omega, by omega⟩, trivial⟩ ?_
                  refine R_if (t := 84) hc125 rfl rfl (fun (z : n - 1 < 0) => absurd z (by omega)) (fun (_ : ¬ (n - 1 < 0)) => ?_)
                  refine R_s (P := inI (8 * (n - 1)) ∧ (0 ≤ 8 * (n - 1) ∧ 8 * (n - 1) < 32) ∧ (255 = 1 ∨ 255 = 63 ∨ 255 = 255) ∧ (0 ≤ F 5 ∧ F 5 < ((A 18).length : Int)) ∧ inI ((F 5) + 1) ∧ inI (n - 1 + (-1)) ∧ True) (f' := (46, [some (vR 88), some (vI b), some (vI n), some (vI (n - 1 + (-1)))], [vI (n - 1 + (-1))], LAY (u (u (shA A) 18 (wr (wr (A 18) (F 5) ((b / 2 ^ (8 * (n - 1) : Int).toNat) % (255 + 1))) ((F 5) + 1) ((b / 2 ^ (8 * (n - 1 + (-1)) : Int).toNat) % (255 + 1)))) 106 (wr (A 18) (F 5) ((b / 2 ^ (8 * (n - 1) : Int).toNat) % (255 + 1)))) (u (u (shF F) 5 (((F 5) + 1) + 1)) 24 ((F 5) + 1)), 0, 0)) hc125 21 rfl ⟨⟨by omega, by omega⟩, ⟨by omega, by omega⟩, (by decide), ⟨by omega, by omega⟩, ⟨by omega, by omega⟩, ⟨by omega, by omega⟩, trivial⟩ ?_
                  refine R_if (t := 84) hc125 rfl rfl (fun (z : n - 1 + (-1) < 0) => absurd z (by omega)) (fun (_ : ¬ (n - 1 + (-1) < 0)) => ?_)
                  refine R_s (P := inI (8 * (n - 1 + (-1))) ∧ (0 ≤ 8 * (n - 1 + (-1)) ∧ 8 * (n - 1 + (-1)) < 32) ∧ (255 = 1 ∨ 255 = 63 ∨ 255 = 255) ∧ (0 ≤ (F 5) + 1 ∧ (F 5) + 1 < ((wr (A 18) (F 5) ((b / 2 ^ (8 * (n - 1) : Int).toNat) % (255 + 1))).length : Int)) ∧ inI (((F 5) + 1) + 1) ∧ inI (n - 1 + (-1) + (-1)) ∧ True) (f' := (46, [some (vR 88), some (vI b), some (vI n), some (vI (n - 1 + (-1) + (-1)))], [vI (n - 1 + (-1) + (-1))], LAY (u (u (shA A) 18 (wr (wr (A 18) (F 5) ((b / 2 ^ (8 * (n - 1) : Int).toNat) % (255 + 1))) ((F 5) + 1) ((b / 2 ^ (8 * (n - 1 + (-1)) : Int).toNat) % (255 + 1)))) 106 (wr (wr (A 18) (F 5) ((b / 2 ^ (8 * (n - 1) : Int).toNat) % (255 + 1))) ((F 5) + 1) ((b / 2 ^ (8 * (n - 1 + (-1)) : Int).toNat) % (255 + 1)))) (u (u (shF F) 5 (((F 5) + 1) + 1)) 24 (((F 5) + 1) + 1)), 0, 0)) hc125 21 rfl ⟨⟨by omega, by omega⟩, ⟨by omega, by omega⟩, (by decide), ⟨by omega, by simp only [wr_len]; omega⟩, ⟨by omega, by omega⟩, ⟨by omega, by omega⟩, trivial⟩ ?_
                  refine R_if (t := 84) hc125 rfl rfl (fun (_ : n - 1 + (-1) + (-1) < 0) => ?_) (fun (z : ¬ (n - 1 + (-1) + (-1) < 0)) => absurd (show n - 1 + (-1) + (-1) < 0 by omega) z)
                  refine R_s (P := True) (f' := (88, [some (vR 88), some (vI b), some (vI n), some (vI (n - 1 + (-1) + (-1)))], [vI (((F 5) + 1) + 1)], LAY (u (u (shA A) 18 (wr (wr (A 18) (F 5) ((b / 2 ^ (8 * (n - 1) : Int).toNat) % (255 + 1))) ((F 5) + 1) ((b / 2 ^ (8 * (n - 1 + (-1)) : Int).toNat) % (255 + 1)))) 106 (wr (wr (A 18) (F 5) ((b / 2 ^ (8 * (n - 1) : Int).toNat) % (255 + 1))) ((F 5) + 1) ((b / 2 ^ (8 * (n - 1 + (-1)) : Int).toNat) % (255 + 1)))) (u (u (shF F) 5 (((F 5) + 1) + 1)) 24 (((F 5) + 1) + 1)), 0, 0)) hc125 2 rfl trivial ?_
                  refine R_reti hc125 rfl rfl ?_
                  first
                    | (exfalso; omega; done)
                    | exact ⟨rfl, (u A 18 (wr (wr (A 18) (F 5) ((b / 2 ^ (8 * (n - 1) : Int).toNat) % (255 + 1))) ((F 5) + 1) ((b / 2 ^ (8 * (n - 1 + (-1)) : Int).toNat) % (255 + 1)))), (u F 5 (((F 5) + 1) + 1)), rfl, rfl, (REL_tape hR0 (by simp only [wr_len]) (by omega))⟩
                · refine R_s (P := True) (f' := (14, [some (vR 17), some (vI b), some (vI n), some (vI (n - 1 + (-1) + (-1)))], [vI 120, vI (((F 5) + 1) + 1)], LAY (u (shA A) 18 (wr (wr (A 18) (F 5) ((b / 2 ^ (8 * (n - 1) : Int).toNat) % (255 + 1))) ((F 5) + 1) ((b / 2 ^ (8 * (n - 1 + (-1)) : Int).toNat) % (255 + 1)))) (u (shF F) 5 (((F 5) + 1) + 1)), 0, 0)) hc37 3 rfl trivial ?_
                  refine R_ic (t := 52) hc37 rfl rfl (fun (c9 : 120 ≤ ((F 5) + 1) + 1) => ?_) (fun (c9 : ¬ (120 ≤ ((F 5) + 1) + 1)) => ?_)
                  · refine R_retv hc37 rfl rfl ?_
                    refine R_s (f' := (53, [some (vR 1), some (vI b), some (vI n)], [], LAY (u (shA A) 18 (wr (wr (A 18) (F 5) ((b / 2 ^ (8 * (n - 1) : Int).toNat) % (255 + 1))) ((F 5) + 1) ((b / 2 ^ (8 * (n - 1 + (-1)) : Int).toNat) % (255 + 1)))) (u (shF F) 5 (((F 5) + 1) + 1)), 0, 0)) hc70 0 rfl trivial ?_
                    refine R_s (P := True) (f' := (60, [some (vR 1), some (vI b), some (vI n)], [vI (((F 5) + 1) + 1)], LAY (u (shA A) 18 (wr (wr (A 18) (F 5) ((b / 2 ^ (8 * (n - 1) : Int).toNat) % (255 + 1))) ((F 5) + 1) ((b / 2 ^ (8 * (n - 1 + (-1)) : Int).toNat) % (255 + 1)))) (u (shF F) 5 (((F 5) + 1) + 1)), 0, 0)) hc70 3 rfl trivial ?_
                    refine R_reti hc70 rfl rfl ⟨⟨_, rfl⟩, ⟨_, _, rfl, rfl⟩, ?_⟩
                    refine R_s (P := True) (f' := (1, [some (vR 88), some (vI b), some (vI n), none], [vI n], LAY (u (shA A) 18 (wr (wr (A 18) (F 5) ((b / 2 ^ (8 * (n - 1) : Int).toNat) % (255 + 1))) ((F 5) + 1) ((b / 2 ^ (8 * (n - 1 + (-1)) : Int).toNat) % (255 + 1)))) (u (shF F) 5 (((F 5) + 1) + 1)), 0, 0)) hc125 1 rfl trivial ?_
                    refine R_if (t := 11) hc125 rfl rfl (fun (_ : 0 ≤ n) => ?_) (fun (z : ¬ (0 ≤ n)) => absurd (show 0 ≤ n by omega) z)
                    refine R_s (P := True) (f' := (13, [some (vR 88), some (vI b), some (vI n), none], [vI 4, vI n], LAY (u (shA A) 18 (wr (wr (A 18) (F 5) ((b / 2 ^ (8 * (n - 1) : Int).toNat) % (255 + 1))) ((F 5) + 1) ((b / 2 ^ (8 * (n - 1 + (-1)) : Int).toNat) % (255 + 1)))) (u (shF F) 5 (((F 5) + 1) + 1)), 0, 0)) hc125 2 rfl trivial ?_
                    refine R_ic (t := 23) hc125 rfl rfl (fun (_ : n ≤ 4) => ?_) (fun (z : ¬ (n ≤ 4)) => absurd (show n ≤ 4 by omega) z)
                    refine R_s (P := inI ((F 5) + n) ∧ True) (f' := (31, [some (vR 88), some (vI b), some (vI n), none], [vI 120, vI ((F 5) + n)], LAY (u (shA A) 18 (wr (wr (A 18) (F 5) ((b / 2 ^ (8 * (n - 1) : Int).toNat) % (255 + 1))) ((F 5) + 1) ((b / 2 ^ (8 * (n - 1 + (-1)) : Int).toNat) % (255 + 1)))) (u (shF F) 5 (((F 5) + 1) + 1)), 0, 0)) hc125 5 rfl ⟨⟨by omega, by omega⟩, trivial⟩ ?_
                    refine R_ic (t := 41) hc125 rfl rfl (fun (_ : (F 5) + n ≤ 120) => ?_) (fun (z : ¬ ((F 5) + n ≤ 120)) => absurd (show (F 5) + n ≤ 120 by omega) z)
                    refine R_s (P := inI (n - 1) ∧ True) (f' := (46, [some (vR 88), some (vI b), some (vI n), some (vI (n - 1))], [vI (n - 1)], LAY (u (shA A) 18 (wr (wr (A 18) (F 5) ((b / 2 ^ (8 * (n - 1) : Int).toNat) % (255 + 1))) ((F 5) + 1) ((b / 2 ^ (8 * (n - 1 + (-1)) : Int).toNat) % (255 + 1)))) (u (shF F) 5 (((F 5) + 1) + 1)), 0, 0)) hc125 5 rfl ⟨⟨by omega, by omega⟩, trivial⟩ ?_
                    refine R_if (t := 84) hc125 rfl rfl (fun (z : n - 1 < 0) => absurd z (by omega)) (fun (_ : ¬ (n - 1 < 0)) => ?_)
                    refine R_s (P := inI (8 * (n - 1)) ∧ (0 ≤ 8 * (n - 1) ∧ 8 * (n - 1) < 32) ∧ (255 = 1 ∨ 255 = 63 ∨ 255 = 255) ∧ (0 ≤ F 5 ∧ F 5 < ((A 18).length : Int)) ∧ inI ((F 5) + 1) ∧ inI (n - 1 + (-1)) ∧ True) (f' := (46, [some (vR 88), some (vI b), some (vI n), some (vI (n - 1 + (-1)))], [vI (n - 1 + (-1))], LAY (u (u (shA A) 18 (wr (wr (A 18) (F 5) ((b / 2 ^ (8 * (n - 1) : Int).toNat) % (255 + 1))) ((F 5) + 1) ((b / 2 ^ (8 * (n - 1 + (-1)) : Int).toNat) % (255 + 1)))) 106 (wr (A 18) (F 5) ((b / 2 ^ (8 * (n - 1) : Int).toNat) % (255 + 1)))) (u (u (shF F) 5 (((F 5) + 1) + 1)) 24 ((F 5) + 1)), 0, 0)) hc125 21 rfl ⟨⟨by omega, by omega⟩, ⟨by omega, by omega⟩, (by decide), ⟨by omega, by omega⟩, ⟨by omega, by omega⟩, ⟨by omega, by omega⟩, trivial⟩ ?_
                    refine R_if (t := 84) hc125 rfl rfl (fun (z : n - 1 + (-1) < 0) => absurd z (by omega)) (fun (_ : ¬ (n - 1 + (-1) < 0)) => ?_)
                    refine R_s (P := inI (8 * (n - 1 + (-1))) ∧ (0 ≤ 8 * (n - 1 + (-1)) ∧ 8 * (n - 1 + (-1)) < 32) ∧ (255 = 1 ∨ 255 = 63 ∨ 255 = 255) ∧ (0 ≤ (F 5) + 1 ∧ (F 5) + 1 < ((wr (A 18) (F 5) ((b / 2 ^ (8 * (n - 1) : Int).toNat) % (255 + 1))).length : Int)) ∧ inI (((F 5) + 1) + 1) ∧ inI (n - 1 + (-1) + (-1)) ∧ True) (f' := (46, [some (vR 88), some (vI b), some (vI n), some (vI (n - 1 + (-1) + (-1)))], [vI (n - 1 + (-1) + (-1))], LAY (u (u (shA A) 18 (wr (wr (A 18) (F 5) ((b / 2 ^ (8 * (n - 1) : Int).toNat) % (255 + 1))) ((F 5) + 1) ((b / 2 ^ (8 * (n - 1 + (-1)) : Int).toNat) % (255 + 1)))) 106 (wr (wr (A 18) (F 5) ((b / 2 ^ (8 * (n - 1) : Int).toNat) % (255 + 1))) ((F 5) + 1) ((b / 2 ^ (8 * (n - 1 + (-1)) : Int).toNat) % (255 + 1)))) (u (u (shF F) 5 (((F 5) + 1) + 1)) 24 (((F 5) + 1) + 1)), 0, 0)) hc125 21 rfl ⟨⟨by omega, by omega⟩, ⟨by omega, by omega⟩, (by decide), ⟨by omega, by simp only [wr_len]; omega⟩, ⟨by omega, by omega⟩, ⟨by omega, by omega⟩, trivial⟩ ?_
                    refine R_if (t := 84) hc125 rfl rfl (fun (z : n - 1 + (-1) + (-1) < 0) => absurd z (by omega)) (fun (_ : ¬ (n - 1 + (-1) + (-1) < 0)) => ?_)
                    refine R_s (P := inI (8 * (n - 1 + (-1) + (-1))) ∧ (0 ≤ 8 * (n - 1 + (-1) + (-1)) ∧ 8 * (n - 1 + (-1) + (-1)) < 32) ∧ (255 = 1 ∨ 255 = 63 ∨ 255 = 255) ∧ (0 ≤ ((F 5) + 1) + 1 ∧ ((F 5) + 1) + 1 < ((wr (wr (A 18) (F 5) ((b / 2 ^ (8 * (n - 1) : Int).toNat) % (255 + 1))) ((F 5) + 1) ((b / 2 ^ (8 * (n - 1 + (-1)) : Int).toNat) % (255 + 1))).length : Int)) ∧ inI ((((F 5) + 1) + 1) + 1) ∧ inI (n - 1 + (-1) + (-1) + (-1)) ∧ True) (f' := (46, [some (vR 88), some (vI b), some (vI n), some (vI (n - 1 + (-1) + (-1) + (-1)))], [vI (n - 1 + (-1) + (-1) + (-1))], LAY (u (u (shA A) 18 (wr (wr (A 18) (F 5) ((b / 2 ^ (8 * (n - 1) : Int).toNat) % (255 + 1))) ((F 5) + 1) ((b / 2 ^ (8 * (n - 1 + (-1)) : Int).toNat) % (255 + 1)))) 106 (wr (wr (wr (A 18) (F 5) ((b / 2 ^ (8 * (n - 1) : Int).toNat) % (255 + 1))) ((F 5) + 1) ((b / 2 ^ (8 * (n - 1 + (-1)) : Int).toNat) % (255 + 1))) (((F 5) + 1) + 1) ((b / 2 ^ (8 * (n - 1 + (-1) + (-1)) : Int).toNat) % (255 + 1)))) (u (u (shF F) 5 (((F 5) + 1) + 1)) 24 ((((F 5) + 1) + 1) + 1)), 0, 0)) hc125 21 rfl ⟨⟨by omega, by omega⟩, ⟨by omega, by omega⟩, (by decide), ⟨by omega, by simp only [wr_len]; omega⟩, ⟨by omega, by omega⟩, ⟨by omega, by omega⟩, trivial⟩ ?_
                    refine R_if (t := 84) hc125 rfl rfl (fun (c116 : n - 1 + (-1) + (-1) + (-1) < 0) => ?_) (fun (c116 : ¬ (n - 1 + (-1) + (-1) + (-1) < 0)) => ?_)
                    · refine R_s (P := True) (f' := (88, [some (vR 88), some (vI b), some (vI n), some (vI (n - 1 + (-1) + (-1) + (-1)))], [vI ((((F 5) + 1) + 1) + 1)], LAY (u (u (shA A) 18 (wr (wr (A 18) (F 5) ((b / 2 ^ (8 * (n - 1) : Int).toNat) % (255 + 1))) ((F 5) + 1) ((b / 2 ^ (8 * (n - 1 + (-1)) : Int).toNat) % (255 + 1)))) 106 (wr (wr (wr (A 18) (F 5) ((b / 2 ^ (8 * (n - 1) : Int).toNat) % (255 + 1))) ((F 5) + 1) ((b / 2 ^ (8 * (n - 1 + (-1)) : Int).toNat) % (255 + 1))) (((F 5) + 1) + 1) ((b / 2 ^ (8 * (n - 1 + (-1) + (-1)) : Int).toNat) % (255 + 1)))) (u (u (shF F) 5 (((F 5) + 1) + 1)) 24 ((((F 5) + 1) + 1) + 1)), 0, 0)) hc125 2 rfl trivial ?_
                      refine R_reti hc125 rfl rfl ?_
                      first
                        | (exfalso; omega; done)
                        | exact ⟨(by rw [show (((F 5) + 1) + 1) + 1 = ((F 5) + 1) + 1 by omega]), (u A 18 (wr (wr (A 18) (F 5) ((b / 2 ^ (8 * (n - 1) : Int).toNat) % (255 + 1))) ((F 5) + 1) ((b / 2 ^ (8 * (n - 1 + (-1)) : Int).toNat) % (255 + 1)))), (u F 5 (((F 5) + 1) + 1)), rfl, rfl, (REL_tape hR0 (by simp only [wr_len]) (by omega))⟩
                    · refine R_s (P := inI (8 * (n - 1 + (-1) + (-1) + (-1))) ∧ (0 ≤ 8 * (n - 1 + (-1) + (-1) + (-1)) ∧ 8 * (n - 1 + (-1) + (-1) + (-1)) < 32) ∧ (255 = 1 ∨ 255 = 63 ∨ 255 = 255) ∧ (0 ≤ (((F 5) + 1) + 1) + 1 ∧ (((F 5) + 1) + 1) + 1 < ((wr (wr (wr (A 18) (F 5) ((b / 2 ^ (8 * (n - 1) : Int).toNat) % (255 + 1))) ((F 5) + 1) ((b / 2 ^ (8 * (n - 1 + (-1)) : Int).toNat) % (255 + 1))) (((F 5) + 1) + 1) ((b / 2 ^ (8 * (n - 1 + (-1) + (-1)) : Int).toNat) % (255 + 1))).length : Int)) ∧ inI (((((F 5) + 1) + 1) + 1) + 1) ∧ inI (n - 1 + (-1) + (-1) + (-1) + (-1)) ∧ True) (f' := (46, [some (vR 88), some (vI b), some (vI n), some (vI (n - 1 + (-1) + (-1) + (-1) + (-1)))], [vI (n - 1 + (-1) + (-1) + (-1) + (-1))], LAY (u (u (shA A) 18 (wr (wr (A 18) (F 5) ((b / 2 ^ (8 * (n - 1) : Int).toNat) % (255 + 1))) ((F 5) + 1) ((b / 2 ^ (8 * (n - 1 + (-1)) : Int).toNat) % (255 + 1)))) 106 (wr (wr (wr (wr (A 18) (F 5) ((b / 2 ^ (8 * (n - 1) : Int).toNat) % (255 + 1))) ((F 5) + 1) ((b / 2 ^ (8 * (n - 1 + (-1)) : Int).toNat) % (255 + 1))) (((F 5) + 1) + 1) ((b / 2 ^ (8 * (n - 1 + (-1) + (-1)) : Int).toNat) % (255 + 1))) ((((F 5) + 1) + 1) + 1) ((b / 2 ^ (8 * (n - 1 + (-1) + (-1) + (-1)) : Int).toNat) % (255 + 1)))) (u (u (shF F) 5 (((F 5) + 1) + 1)) 24 (((((F 5) + 1) + 1) + 1) + 1)), 0, 0)) hc125 21 rfl ⟨⟨by omega, by omega⟩, ⟨by omega, by omega⟩, (by decide), ⟨by omega, by simp only [wr_len]; omega⟩, ⟨by omega, by omega⟩, ⟨by omega, by omega⟩, trivial⟩ ?_
                      refine R_if (t := 84) hc125 rfl rfl (fun (_ : n - 1 + (-1) + (-1) + (-1) + (-1) < 0) => ?_) (fun (z : ¬ (n - 1 + (-1) + (-1) + (-1) + (-1) < 0)) => absurd (show n - 1 + (-1) + (-1) + (-1) + (-1) < 0 by omega) z)
                      refine R_s (P := True) (f' := (88, [some (vR 88), some (vI b), some (vI n), some (vI (n - 1 + (-1) + (-1) + (-1) + (-1)))], [vI (((((F 5) + 1) + 1) + 1) + 1)], LAY (u (u (shA A) 18 (wr (wr (A 18) (F 5) ((b / 2 ^ (8 * (n - 1) : Int).toNat) % (255 + 1))) ((F 5) + 1) ((b / 2 ^ (8 * (n - 1 + (-1)) : Int).toNat) % (255 + 1)))) 106 (wr (wr (wr (wr (A 18) (F 5) ((b / 2 ^ (8 * (n - 1) : Int).toNat) % (255 + 1))) ((F 5) + 1) ((b / 2 ^ (8 * (n - 1 + (-1)) : Int).toNat) % (255 + 1))) (((F 5) + 1) + 1) ((b / 2 ^ (8 * (n - 1 + (-1) + (-1)) : Int).toNat) % (255 + 1))) ((((F 5) + 1) + 1) + 1) ((b / 2 ^ (8 * (n - 1 + (-1) + (-1) + (-1)) : Int).toNat) % (255 + 1)))) (u (u (shF F) 5 (((F 5) + 1) + 1)) 24 (((((F 5) + 1) + 1) + 1) + 1)), 0, 0)) hc125 2 rfl trivial ?_
                      refine R_reti hc125 rfl rfl ?_
                      first
                        | (exfalso; omega; done)
                        | exact ⟨(by rw [show ((((F 5) + 1) + 1) + 1) + 1 = ((F 5) + 1) + 1 by omega]), (u A 18 (wr (wr (A 18) (F 5) ((b / 2 ^ (8 * (n - 1) : Int).toNat) % (255 + 1))) ((F 5) + 1) ((b / 2 ^ (8 * (n - 1 + (-1)) : Int).toNat) % (255 + 1)))), (u F 5 (((F 5) + 1) + 1)), rfl, rfl, (REL_tape hR0 (by simp only [wr_len]) (by omega))⟩
                  · refine R_s (P := inI (8 * (n - 1 + (-1) + (-1))) ∧ (0 ≤ 8 * (n - 1 + (-1) + (-1)) ∧ 8 * (n - 1 + (-1) + (-1)) < 32) ∧ (255 = 1 ∨ 255 = 63 ∨ 255 = 255) ∧ (0 ≤ ((F 5) + 1) + 1 ∧ ((F 5) + 1) + 1 < ((wr (wr (A 18) (F 5) ((b / 2 ^ (8 * (n - 1) : Int).toNat) % (255 + 1))) ((F 5) + 1) ((b / 2 ^ (8 * (n - 1 + (-1)) : Int).toNat) % (255 + 1))).length : Int)) ∧ inI ((((F 5) + 1) + 1) + 1) ∧ inI (n - 1 + (-1) + (-1) + (-1)) ∧ True) (f' := (5, [some (vR 17), some (vI b), some (vI n), some (vI (n - 1 + (-1) + (-1) + (-1)))], [vI (n - 1 + (-1) + (-1) + (-1))], LAY (u (shA A) 18 (wr (wr (wr (A 18) (F 5) ((b / 2 ^ (8 * (n - 1) : Int).toNat) % (255 + 1))) ((F 5) + 1) ((b / 2 ^ (8 * (n - 1 + (-1)) : Int).toNat) % (255 + 1))) (((F 5) + 1) + 1) ((b / 2 ^ (8 * (n - 1 + (-1) + (-1)) : Int).toNat) % (255 + 1)))) (u (shF F) 5 ((((F 5) + 1) + 1) + 1)), 0, 0)) hc37 21 rfl ⟨⟨by omega, by omega⟩, ⟨by omega, by omega⟩, (by decide), ⟨by omega, by simp only [wr_len]; omega⟩, ⟨by omega, by omega⟩, ⟨by omega, by omega⟩, trivial⟩ ?_
                    refine R_if (t := 52) hc37 rfl rfl (fun (c10 : n - 1 + (-1) + (-1) + (-1) < 0) => ?_) (fun (c10 : ¬ (n - 1 + (-1) + (-1) + (-1) < 0)) => ?_)
                    · refine R_retv hc37 rfl rfl ?_
                      refine R_s (f' := (53, [some (vR 1), some (vI b), some (vI n)], [], LAY (u (shA A) 18 (wr (wr (wr (A 18) (F 5) ((b / 2 ^ (8 * (n - 1) : Int).toNat) % (255 + 1))) ((F 5) + 1) ((b / 2 ^ (8 * (n - 1 + (-1)) : Int).toNat) % (255 + 1))) (((F 5) + 1) + 1) ((b / 2 ^ (8 * (n - 1 + (-1) + (-1)) : Int).toNat) % (255 + 1)))) (u (shF F) 5 ((((F 5) + 1) + 1) + 1)), 0, 0)) hc70 0 rfl trivial ?_
                      refine R_s (P := True) (f' := (60, [some (vR 1), some (vI b), some (vI n)], [vI ((((F 5) + 1) + 1) + 1)], LAY (u (shA A) 18 (wr (wr (wr (A 18) (F 5) ((b / 2 ^ (8 * (n - 1) : Int).toNat) % (255 + 1))) ((F 5) + 1) ((b / 2 ^ (8 * (n - 1 + (-1)) : Int).toNat) % (255 + 1))) (((F 5) + 1) + 1) ((b / 2 ^ (8 * (n - 1 + (-1) + (-1)) : Int).toNat) % (255 + 1)))) (u (shF F) 5 ((((F 5) + 1) + 1) + 1)), 0, 0)) hc70 3 rfl trivial ?_
                      refine R_reti hc70 rfl rfl ⟨⟨_, rfl⟩, ⟨_, _, rfl, rfl⟩, ?_⟩
                      refine R_s (P := True) (f' := (1, [some (vR 88), some (vI b), some (vI n), none], [vI n], LAY (u (shA A) 18 (wr (wr (wr (A 18) (F 5) ((b / 2 ^ (8 * (n - 1) : Int).toNat) % (255 + 1))) ((F 5) + 1) ((b / 2 ^ (8 * (n - 1 + (-1)) : Int).toNat) % (255 + 1))) (((F 5) + 1) + 1) ((b / 2 ^ (8 * (n - 1 + (-1) + (-1)) : Int).toNat) % (255 + 1)))) (u (shF F) 5 ((((F 5) + 1) + 1) + 1)), 0, 0)) hc125 1 rfl trivial ?_
                      refine R_if (t := 11) hc125 rfl rfl (fun (_ : 0 ≤ n) => ?_) (fun (z : ¬ (0 ≤ n)) => absurd (show 0 ≤ n by omega) z)
                      refine R_s (P := True) (f' := (13, [some (vR 88), some (vI b), some (vI n), none], [vI 4, vI n], LAY (u (shA A) 18 (wr (wr (wr (A 18) (F 5) ((b / 2 ^ (8 * (n - 1) : Int).toNat) % (255 + 1))) ((F 5) + 1) ((b / 2 ^ (8 * (n - 1 + (-1)) : Int).toNat) % (255 + 1))) (((F 5) + 1) + 1) ((b / 2 ^ (8 * (n - 1 + (-1) + (-1)) : Int).toNat) % (255 + 1)))) (u (shF F) 5 ((((F 5) + 1) + 1) + 1)), 0, 0)) hc125 2 rfl trivial ?_
                      refine R_ic (t := 23) hc125 rfl rfl (fun (_ : n ≤ 4) => ?_) (fun (z : ¬ (n ≤ 4)) => absurd (show n ≤ 4 by omega) z)
                      refine R_s (P := inI ((F 5) + n) ∧ True) (f' := (31, [some (vR 88), some (vI b), some (vI n), none], [vI 120, vI ((F 5) + n)], LAY (u (shA A) 18 (wr (wr (wr (A 18) (F 5) ((b / 2 ^ (8 * (n - 1) : Int).toNat) % (255 + 1))) ((F 5) + 1) ((b / 2 ^ (8 * (n - 1 + (-1)) : Int).toNat) % (255 + 1))) (((F 5) + 1) + 1) ((b / 2 ^ (8 * (n - 1 + (-1) + (-1)) : Int).toNat) % (255 + 1)))) (u (shF F) 5 ((((F 5) + 1) + 1) + 1)), 0, 0)) hc125 5 rfl ⟨⟨by omega, by omega⟩, trivial⟩ ?_
                      refine R_ic (t := 41) hc125 rfl rfl (fun (_ : (F 5) + n ≤ 120) => ?_) (fun (z : ¬ ((F 5) + n ≤ 120)) => absurd (show (F 5) + n ≤ 120 by omega) z)
                      refine R_s (P := inI (n - 1) ∧ True) (f' := (46, [some (vR 88), some (vI b), some (vI n), some (vI (n - 1))], [vI (n - 1)], LAY (u (shA A) 18 (wr (wr (wr (A 18) (F 5) ((b / 2 ^ (8 * (n - 1) : Int).toNat) % (255 + 1))) ((F 5) + 1) ((b / 2 ^ (8 * (n - 1 + (-1)) : Int).toNat) % (255 + 1))) (((F 5) + 1) + 1) ((b / 2 ^ (8 * (n - 1 + (-1) + (-1)) : Int).toNat) % (255 + 1)))) (u (shF F) 5 ((((F 5) + 1) + 1) + 1)), 0, 0)) hc125 5 rfl ⟨⟨by omega, by omega⟩, trivial⟩ ?_
                      refine R_if (t := 84) hc125 rfl rfl (fun (z : n - 1 < 0) => absurd z (by omega)) (fun (_ : ¬ (n - 1 < 0)) => ?_)
                      refine R_s (P := inI (8 * (n - 1)) ∧ (0 ≤ 8 * (n - 1) ∧ 8 * (n - 1) < 32) ∧ (255 = 1 ∨ 255 = 63 ∨ 255 = 255) ∧ (0 ≤ F 5 ∧ F 5 < ((A 18).length : Int)) ∧ inI ((F 5) + 1) ∧ inI (n - 1 + (-1)) ∧ True) (f' := (46, [some (vR 88), some (vI b), some (vI n), some (vI (n - 1 + (-1)))], [vI (n - 1 + (-1))], LAY (u (u (shA A) 18 (wr (wr (wr (A 18) (F 5) ((b / 2 ^ (8 * (n - 1) : Int).toNat) % (255 + 1))) ((F 5) + 1) ((b / 2 ^ (8 * (n - 1 + (-1)) : Int).toNat) % (255 + 1))) (((F 5) + 1) + 1) ((b / 2 ^ (8 * (n - 1 + (-1) + (-1)) : Int).toNat) % (255 + 1)))) 106 (wr (A 18) (F 5) ((b / 2 ^ (8 * (n - 1) : Int).toNat) % (255 + 1)))) (u (u (shF F) 5 ((((F 5) + 1) + 1) + 1)) 24 ((F 5) + 1)), 0, 0)) hc125 21 rfl ⟨⟨by omega, by omega⟩, ⟨by omega, by omega⟩, (by decide), ⟨by omega, by omega⟩, ⟨by omega, by omega⟩, ⟨by omega, by omega⟩, trivial⟩ ?_
                      refine R_if (t := 84) hc125 rfl rfl (fun (z : n - 1 + (-1) < 0) => absurd z (by omega)) (fun (_ : ¬ (n - 1 + (-1) < 0)) => ?_)
                      refine R_s (P := inI (8 * (n - 1 + (-1))) ∧ (0 ≤ 8 * (n - 1 + (-1)) ∧ 8 * (n - 1 + (-1)) < 32) ∧ (255 = 1 ∨ 255 = 63 ∨ 255 = 255) ∧ (0 ≤ (F 5) + 1 ∧ (F 5) + 1 < ((wr (A 18) (F 5) ((b / 2 ^ (8 * (n - 1) : Int).toNat) % (255 + 1))).length : Int)) ∧ inI (((F 5) + 1) + 1) ∧ inI (n - 1 + (-1) + (-1)) ∧ True) (f' := (46, [some (vR 88), some (vI b), some (vI n), some (vI (n - 1 + (-1) + (-1)))], [vI (n - 1 + (-1) + (-1))], LAY (u (u (shA A) 18 (wr (wr (wr (A 18) (F 5) ((b / 2 ^ (8 * (n - 1) : Int).toNat) % (255 + 1))) ((F 5) + 1) ((b / 2 ^ (8 * (n - 1 + (-1)) : Int).toNat) % (255 + 1))) (((F 5) + 1) + 1) ((b / 2 ^ (8 * (n - 1 + (-1) + (-1)) : Int).toNat) % (255 + 1)))) 106 (wr (wr (A 18) (F 5) ((b / 2 ^ (8 * (n - 1) : Int).toNat) % (255 + 1))) ((F 5) + 1) ((b / 2 ^ (8 * (n - 1 + (-1)) : Int).toNat) % (255 + 1)))) (u (u (shF F) 5 ((((F 5) + 1) + 1) + 1)) 24 (((F 5) + 1) + 1)), 0, 0)) hc125 21 rfl ⟨⟨by omega, by omega⟩, ⟨by omega, by omega⟩, (by decide), ⟨by omega, by simp only [wr_len]; omega⟩, ⟨by omega, by omega⟩, ⟨by omega, by omega⟩, trivial⟩ ?_
                      refine R_if (t := 84) hc125 rfl rfl (fun (z : n - 1 + (-1) + (-1) < 0) => absurd z (by omega)) (fun (_ : ¬ (n - 1 + (-1) + (-1) < 0)) => ?_)
                      refine R_s (P := inI (8 * (n - 1 + (-1) + (-1))) ∧ (0 ≤ 8 * (n - 1 + (-1) + (-1)) ∧ 8 * (n - 1 + (-1) + (-1)) < 32) ∧ (255 = 1 ∨ 255 = 63 ∨ 255 = 255) ∧ (0 ≤ ((F 5) + 1) + 1 ∧ ((F 5) + 1) + 1 < ((wr (wr (A 18) (F 5) ((b / 2 ^ (8 * (n - 1) : Int).toNat) % (255 + 1))) ((F 5) + 1) ((b / 2 ^ (8 * (n - 1 + (-1)) : Int).toNat) % (255 + 1))).length : Int)) ∧ inI ((((F 5) + 1) + 1) + 1) ∧ inI (n - 1 + (-1) + (-1) + (-1)) ∧ True) (f' := (46, [some (vR 88), some (vI b), some (vI n), some (vI (n - 1 + (-1) + (-1) + (-1)))], [vI (n - 1 + (-1) + (-1) + (-1))], LAY (u (u (shA A) 18 (wr (wr (wr (A 18) (F 5) ((b / 2 ^ (8 * (n - 1) : Int).toNat) % (255 + 1))) ((F 5) + 1) ((b / 2 ^ (8 * (n - 1 + (-1)) : Int).toNat) % (255 + 1))) (((F 5) + 1) + 1) ((b / 2 ^ (8 * (n - 1 + (-1) + (-1)) : Int).toNat) % (255 + 1)))) 106 (wr (wr (wr (A 18) (F 5) ((b / 2 ^ (8 * (n - 1) : Int).toNat) % (255 + 1))) ((F 5) + 1) ((b / 2 ^ (8 * (n - 1 + (-1)) : Int).toNat) % (255 + 1))) (((F 5) + 1) + 1) ((b / 2 ^ (8 * (n - 1 + (-1) + (-1)) : Int).toNat) % (255 + 1)))) (u (u (shF F) 5 ((((F 5) + 1) + 1) + 1)) 24 ((((F 5) + 1) + 1) + 1)), 0, 0)) hc125 21 rfl ⟨⟨by omega, by omega⟩, ⟨by omega, by omega⟩, (by decide), ⟨by omega, by simp only [wr_len]; omega⟩, ⟨by omega, by omega⟩, ⟨by omega, by omega⟩, trivial⟩ ?_
                      refine R_if (t := 84) hc125 rfl rfl (fun (_ : n - 1 + (-1) + (-1) + (-1) < 0) => ?_) (fun (z : ¬ (n - 1 + (-1) + (-1) + (-1) < 0)) => absurd (show n - 1 + (-1) + (-1) + (-1) < 0 by omega) z)
                      refine R_s (P := True) (f' := (88, [some (vR 88), some (vI b), some (vI n), some (vI (n - 1 + (-1) + (-1) + (-1)))], [vI ((((F 5) + 1) + 1) + 1)], LAY (u (u (shA A) 18 (wr (wr (wr (A 18) (F 5) ((b / 2 ^ (8 * (n - 1) : Int).toNat) % (255 + 1))) ((F 5) + 1) ((b / 2 ^ (8 * (n - 1 + (-1)) : Int).toNat) % (255 + 1))) (((F 5) + 1) + 1) ((b / 2 ^ (8 * (n - 1 + (-1) + (-1)) : Int).toNat) % (255 + 1)))) 106 (wr (wr (wr (A 18) (F 5) ((b / 2 ^ (8 * (n - 1) : Int).toNat) % (255 + 1))) ((F 5) + 1) ((b / 2 ^ (8 * (n - 1 + (-1)) : Int).toNat) % (255 + 1))) (((F 5) + 1) + 1) ((b / 2 ^ (8 * (n - 1 + (-1) + (-1)) : Int).toNat) % (255 + 1)))) (u (u (shF F) 5 ((((F 5) + 1) + 1) + 1)) 24 ((((F 5) + 1) + 1) + 1)), 0, 0)) hc125 2 rfl trivial ?_
                      refine R_reti hc125 rfl rfl ?_
                      first
                        | (exfalso; omega; done)
                        | exact ⟨rfl, (u A 18 (wr (wr (wr (A 18) (F 5) ((b / 2 ^ (8 * (n - 1) : Int).toNat) % (255 + 1))) ((F 5) + 1) ((b / 2 ^ (8 * (n - 1 + (-1)) : Int).toNat) % (255 + 1))) (((F 5) + 1) + 1) ((b / 2 ^ (8 * (n - 1 + (-1) + (-1)) : Int).toNat) % (255 + 1)))), (u F 5 ((((F 5) + 1) + 1) + 1)), rfl, rfl, (REL_tape hR0 (by simp only [wr_len]) (by omega))⟩
                    · refine R_s (P := True) (f' := (14, [some (vR 17), some (vI b), some (vI n), some (vI (n - 1 + (-1) + (-1) + (-1)))], [vI 120, vI ((((F 5) + 1) + 1) + 1)], LAY (u (shA A) 18 (wr (wr (wr (A 18) (F 5) ((b / 2 ^ (8 * (n - 1) : Int).toNat) % (255 + 1))) ((F 5) + 1) ((b / 2 ^ (8 * (n - 1 + (-1)) : Int).toNat) % (255 + 1))) (((F 5) + 1) + 1) ((b / 2 ^ (8 * (n - 1 + (-1) + (-1)) : Int).toNat) % (255 + 1)))) (u (shF F) 5 ((((F 5) + 1) + 1) + 1)), 0, 0)) hc37 3 rfl trivial ?_
                      refine R_ic (t := 52) hc37 rfl rfl (fun (c11 : 120 ≤ (((F 5) + 1) + 1) + 1) => ?_) (fun (c11 : ¬ (120 ≤ (((F 5) + 1) + 1) + 1)) => ?_)
                      · refine R_retv hc37 rfl rfl ?_
                        refine R_s (f' := (53, [some (vR 1), some (vI b), some (vI n)], [], LAY (u (shA A) 18 (wr (wr (wr (A 18) (F 5) ((b / 2 ^ (8 * (n - 1) : Int).toNat) % (255 + 1))) ((F 5) + 1) ((b / 2 ^ (8 * (n - 1 + (-1)) : Int).toNat) % (255 + 1))) (((F 5) + 1) + 1) ((b / 2 ^ (8 * (n - 1 + (-1) + (-1)) : Int).toNat) % (255 + 1)))) (u (shF F) 5 ((((F 5) + 1) + 1) + 1)), 0, 0)) hc70 0 rfl trivial ?_
                        refine R_s (P := True) (f' := (60, [some (vR 1), some (vI b), some (vI n)], [vI ((((F 5) + 1) + 1) + 1)], LAY (u (shA A) 18 (wr (wr (wr (A 18) (F 5) ((b / 2 ^ (8 * (n - 1) : Int).toNat) % (255 + 1))) ((F 5) + 1) ((b / 2 ^ (8 * (n - 1 + (-1)) : Int).toNat) % (255 + 1))) (((F 5) + 1) + 1) ((b / 2 ^ (8 * (n - 1 + (-1) + (-1)) : Int).toNat) % (255 + 1)))) (u (shF F) 5 ((((F 5) + 1) + 1) + 1)), 0, 0)) hc70 3 rfl trivial ?_
                        refine R_reti hc70 rfl rfl ⟨⟨_, rfl⟩, ⟨_, _, rfl, rfl⟩, ?_⟩
                        refine R_s (P := True) (f' := (1, [some (vR 88), some (vI b), some (vI n), none], [vI n], LAY (u (shA A) 18 (wr (wr (wr (A 18) (F 5) ((b / 2 ^ (8 * (n - 1) : Int).toNat) % (255 + 1))) ((F 5) + 1) ((b / 2 ^ (8 * (n - 1 + (-1)) : Int).toNat) % (255 + 1))) (((F 5) + 1) + 1) ((b / 2 ^ (8 * (n - 1 + (-1) + (-1)) : Int).toNat) % (255 + 1)))) (u (shF F) 5 ((((F 5) + 1) + 1) + 1)), 0, 0)) hc125 1 rfl trivial ?_
                        refine R_if (t := 11) hc125 rfl rfl (fun (_ : 0 ≤ n) => ?_) (fun (z : ¬ (0 ≤ n)) => absurd (show 0 ≤ n by omega) z)
                        refine R_s (P := True) (f' := (13, [some (vR 88), some (vI b), some (vI n), none], [vI 4, vI n], LAY (u (shA A) 18 (wr (wr (wr (A 18) (F 5) ((b / 2 ^ (8 * (n - 1) : Int).toNat) % (255 + 1))) ((F 5) + 1) ((b / 2 ^ (8 * (n - 1 + (-1)) : Int).toNat) % (255 + 1))) (((F 5) + 1) + 1) ((b / 2 ^ (8 * (n - 1 + (-1) + (-1)) : Int).toNat) % (255 + 1)))) (u (shF F) 5 ((((F 5) + 1) + 1) + 1)), 0, 0)) hc125 2 rfl trivial ?_
                        refine R_ic (t := 23) hc125 rfl rfl (fun (_ : n ≤ 4) => ?_) (fun (z : ¬ (n ≤ 4)) => absurd (show n ≤ 4 by omega) z)
                        refine R_s (P := inI ((F 5) + n) ∧ True) (f' := (31, [some (vR 88), some (vI b), some (vI n), none], [vI 120, vI ((F 5) + n)], LAY (u (shA A) 18 (wr (wr (wr (A 18) (F 5) ((b / 2 ^ (8 * (n - 1) : Int).toNat) % (255 + 1))) ((F 5) + 1) ((b / 2 ^ (8 * (n - 1 + (-1)) : Int).toNat) % (255 + 1))) (((F 5) + 1) + 1) ((b / 2 ^ (8 * (n - 1 + (-1) + (-1)) : Int).toNat) % (255 + 1)))) (u (shF F) 5 ((((F 5) + 1) + 1) + 1)), 0, 0)) hc125 5 rfl ⟨⟨by omega, by omega⟩, trivial⟩ ?_
                        refine R_ic (t := 41) hc125 rfl rfl (fun (_ : (F 5) + n ≤ 120) => ?_) (fun (z : ¬ ((F 5) + n ≤ 120)) => absurd (show (F 5) + n ≤ 120 by omega) z)
                        refine R_s (P := inI (n - 1) ∧ True) (f' := (46, [some (vR 88), some (vI b), some (vI n), some (vI (n - 1))], [vI (n - 1)], LAY (u (shA A) 18 (wr (wr (wr (A 18) (F 5) ((b / 2 ^ (8 * (n - 1) : Int).toNat) % (255 + 1))) ((F 5) + 1) ((b / 2 ^ (8 * (n - 1 + (-1)) : Int).toNat) % (255 + 1))) (((F 5) + 1) + 1) ((b / 2 ^ (8 * (n - 1 + (-1) + (-1)) : Int).toNat) % (255 + 1)))) (u (shF F) 5 ((((F 5) + 1) + 1) + 1)), 0, 0)) hc125 5 rfl ⟨⟨by omega, by omega⟩, trivial⟩ ?_
                        refine R_if (t := 84) hc125 rfl rfl (fun (z : n - 1 < 0) => absurd z (by omega)) (fun (_ : ¬ (n - 1 < 0)) => ?_)
                        refine R_s (P := inI (8 * (n - 1)) ∧ (0 ≤ 8 * (n - 1) ∧ 8 * (n - 1) < 32) ∧ (255 = 1 ∨ 255 = 63 ∨ 255 = 255) ∧ (0 ≤ F 5 ∧ F 5 < ((A 18).length : Int)) ∧ inI ((F 5) + 1) ∧ inI (n - 1 + (-1)) ∧ True) (f' := (46, [some (vR 88), some (vI b), some (vI n), some (vI (n - 1 + (-1)))], [vI (n - 1 + (-1))], LAY (u (u (shA A) 18 (wr (wr (wr (A 18) (F 5) ((b / 2 ^ (8 * (n - 1) : Int).toNat) % (255 + 1))) ((F 5) + 1) ((b / 2 ^ (8 * (n - 1 + (-1)) : Int).toNat) % (255 + 1))) (((F 5) + 1) + 1) ((b / 2 ^ (8 * (n - 1 + (-1) + (-1)) : Int).toNat) % (255 + 1)))) 106 (wr (A 18) (F 5) ((b / 2 ^ (8 * (n - 1) : Int).toNat) % (255 + 1)))) (u (u (shF F) 5 ((((F 5) + 1) + 1) + 1)) 24 ((F 5) + 1)), 0, 0)) hc125 21 rfl ⟨⟨by omega, by omega⟩, ⟨by omega, by omega⟩, (by decide), ⟨by omega, by omega⟩, ⟨by omega, by omega⟩, ⟨by omega, by omega⟩, trivial⟩ ?_
                        refine R_if (t := 84) hc125 rfl rfl (fun (z : n - 1 + (-1) < 0) => absurd z (by omega)) (fun (_ : ¬ (n - 1 + (-1) < 0)) => ?_)
                        refine R_s (P := inI (8 * (n - 1 + (-1))) ∧ (0 ≤ 8 * (n - 1 + (-1)) ∧ 8 * (n - 1 + (-1)) < 32) ∧ (255 = 1 ∨ 255 = 63 ∨ 255 = 255) ∧ (0 ≤ (F 5) + 1 ∧ (F 5) + 1 < ((wr (A 18) (F 5) ((b / 2 ^ (8 * (n - 1) : Int).toNat) % (255 + 1))).length : Int)) ∧ inI (((F 5) + 1) + 1) ∧ inI (n - 1 + (-1) + (-1)) ∧ True) (f' := (46, [some (vR 88), some (vI b), some (vI n), some (vI (n - 1 + (-1) + (-1)))], [vI (n - 1 + (-1) + (-1))], LAY (u (u (shA A) 18 (wr (wr (wr (A 18) (F 5) ((b / 2 ^ (8 * (n - 1) : Int).toNat) % (255 + 1))) ((F 5) + 1) ((b / 2 ^ (8 * (n - 1 + (-1)) : Int).toNat) % (255 + 1))) (((F 5) + 1) + 1) ((b / 2 ^ (8 * (n - 1 + (-1) + (-1)) : Int).toNat) % (255 + 1)))) 106 (wr (wr (A 18) (F 5) ((b / 2 ^ (8 * (n - 1) : Int).toNat) % (255 + 1))) ((F 5) + 1) ((b / 2 ^ (8 * (n - 1 + (-1)) : Int).toNat) % (255 + 1)))) (u (u (shF F) 5 ((((F 5) + 1) + 1) + 1)) 24 (((F 5) + 1) + 1)), 0, 0)) hc125 21 rfl ⟨⟨by omega, by omega⟩, ⟨by omega, by omega⟩, (by decide), ⟨by omega, by simp only [wr_len]; omega⟩, ⟨by omega, by omega⟩, ⟨by omega, by omega⟩, trivial⟩ ?_
                        refine R_if (t := 84) hc125 rfl rfl (fun (z : n - 1 + (-1) + (-1) < 0) => absurd z (by omega)) (fun (_ : ¬ (n - 1 + (-1) + (-1) < 0)) => ?_)
                        refine R_s (P := inI (8 * (n - 1 + (-1) + (-1))) ∧ (0 ≤ 8 * (n - 1 + (-1) + (-1)) ∧ 8 * (n - 1 + (-1) + (-1)) < 32) ∧ (255 = 1 ∨ 255 = 63 ∨ 255 = 255) ∧ (0 ≤ ((F 5) + 1) + 1 ∧ ((F 5) + 1) + 1 < ((wr (wr (A 18) (F 5) ((b / 2 ^ (8 * (n - 1) : Int).toNat) % (255 + 1))) ((F 5) + 1) ((b / 2 ^ (8 * (n - 1 + (-1)) : Int).toNat) % (255 + 1))).length : Int)) ∧ inI ((((F 5) + 1) + 1) + 1) ∧ inI (n - 1 + (-1) + (-1) + (-1)) ∧ True) (f' := (46, [some (vR 88), some (vI b), some (vI n), some (vI (n - 1 + (-1) + (-1) + (-1)))], [vI (n - 1 + (-1) + (-1) + (-1))], LAY (u (u (shA A) 18 (wr (wr (wr (A 18) (F 5) ((b / 2 ^ (8 * (n - 1) : Int).toNat) % (255 + 1))) ((F 5) + 1) ((b / 2 ^ (8 * (n - 1 + (-1)) : Int).toNat) % (255 + 1))) (((F 5) + 1) + 1) ((b / 2 ^ (8 * (n - 1 + (-1) + (-1)) : Int).toNat) % (255 + 1)))) 106 (wr (wr (wr (A 18) (F 5) ((b / 2 ^ (8 * (n - 1) : Int).toNat) % (255 + 1))) ((F 5) + 1) ((b / 2 ^ (8 * (n - 1 + (-1)) : Int).toNat) % (255 + 1))) (((F 5) + 1) + 1) ((b / 2 ^ (8 * (n - 1 + (-1) + (-1)) : Int).toNat) % (255 + 1)))) (u (u (shF F) 5 ((((F 5) + 1) + 1) + 1)) 24 ((((F 5) + 1) + 1) + 1)), 0, 0)) hc125 21 rfl ⟨⟨by omega, by omega⟩, ⟨by omega, by omega⟩, (by decide), ⟨by omega, by simp only [wr_len]; omega⟩, ⟨by omega, by omega⟩, ⟨by omega, by omega⟩, trivial⟩ ?_
                        refine R_if (t := 84) hc125 rfl rfl (fun (z : n - 1 + (-1) + (-1) + (-1) < 0) => absurd z (by omega)) (fun (_ : ¬ (n - 1 + (-1) + (-1) + (-1) < 0)) => ?_)
                        refine R_s (P := inI (8 * (n - 1 + (-1) + (-1) + (-1))) ∧ (0 ≤ 8 * (n - 1 + (-1) + (-1) + (-1)) ∧ 8 * (n - 1 + (-1) + (-1) + (-1)) < 32) ∧ (255 = 1 ∨ 255 = 63 ∨ 255 = 255) ∧ (0 ≤ (((F 5) + 1) + 1) + 1 ∧ (((F 5) + 1) + 1) + 1 < ((wr (wr (wr (A 18) (F 5) ((b / 2 ^ (8 * (n - 1) : Int).toNat) % (255 + 1))) ((F 5) + 1) ((b / 2 ^ (8 * (n - 1 + (-1)) : Int).toNat) % (255 + 1))) (((F 5) + 1) + 1) ((b / 2 ^ (8 * (n - 1 + (-1) + (-1)) : Int).toNat) % (255 + 1))).length : Int)) ∧ inI (((((F 5) + 1) + 1) + 1) + 1) ∧ inI (n - 1 + (-1) + (-1) + (-1) + (-1)) ∧ True) (f' := (46, [some (vR 88), some (vI b), some (vI n), some (vI (n - 1 + (-1) + (-1) + (-1) + (-1)))], [vI (n - 1 + (-1) + (-1) + (-1) + (-1))], LAY (u (u (shA A) 18 (wr (wr (wr (A 18) (F 5) ((b / 2 ^ (8 * (n - 1) : Int).toNat) % (255 + 1))) ((F 5) + 1) ((b / 2 ^ (8 * (n - 1 + (-1)) : Int).toNat) % (255 + 1))) (((F 5) + 1) + 1) ((b / 2 ^ (8 * (n - 1 + (-1) + (-1)) : Int).toNat) % (255 + 1)))) 106 (wr (wr (wr (wr (A 18) (F 5) ((b / 2 ^ (8 * (n - 1) : Int).toNat) % (255 + 1))) ((F 5) + 1) ((b / 2 ^ (8 * (n - 1 + (-1)) : Int).toNat) % (255 + 1))) (((F 5) + 1) + 1) ((b / 2 ^ (8 * (n - 1 + (-1) + (-1)) : Int).toNat) % (255 + 1))) ((((F 5) + 1) + 1) + 1) ((b / 2 ^ (8 * (n - 1 + (-1) + (-1) + (-1)) : Int).toNat) % (255 + 1)))) (u (u (shF F) 5 ((((F 5) + 1) + 1) + 1)) 24 (((((F 5) + 1) + 1) + 1) + 1)), 0, 0)) hc125 21 rfl ⟨⟨by omega, by omega⟩, ⟨by omega, by omega⟩, (by decide), ⟨by omega, by simp only [wr_len]; omega⟩, ⟨by omega, by omega⟩, ⟨by omega, by omega⟩, trivial⟩ ?_
                        refine R_if (t := 84) hc125 rfl rfl (fun (_ : n - 1 + (-1) + (-1) + (-1) + (-1) < 0) => ?_) (fun (z : ¬ (n - 1 + (-1) + (-1) + (-1) + (-1) < 0)) => absurd (show n - 1 + (-1) + (-1) + (-1) + (-1) < 0 by omega) z)
                        refine R_s (P := True) (f' := (88, [some (vR 88), some (vI b), some (vI n), some (vI (n - 1 + (-1) + (-1) + (-1) + (-1)))], [vI (((((F 5) + 1) + 1) + 1) + 1)], LAY (u (u (shA A) 18 (wr (wr (wr (A 18) (F 5) ((b / 2 ^ (8 * (n - 1) : Int).toNat) % (255 + 1))) ((F 5) + 1) ((b / 2 ^ (8 * (n - 1 + (-1)) : Int).toNat) % (255 + 1))) (((F 5) + 1) + 1) ((b / 2 ^ (8 * (n - 1 + (-1) + (-1)) : Int).toNat) % (255 + 1)))) 106 (wr (wr (wr (wr (A 18) (F 5) ((b / 2 ^ (8 * (n - 1) : Int).toNat) % (255 + 1))) ((F 5) + 1) ((b / 2 ^ (8 * (n - 1 + (-1)) : Int).toNat) % (255 + 1))) (((F 5) + 1) + 1) ((b / 2 ^ (8 * (n - 1 + (-1) + (-1)) : Int).toNat) % (255 + 1))) ((((F 5) + 1) + 1) + 1) ((b / 2 ^ (8 * (n - 1 + (-1) + (-1) + (-1)) : Int).toNat) % (255 + 1)))) (u (u (shF F) 5 ((((F 5) + 1) + 1) + 1)) 24 (((((F 5) + 1) + 1) + 1) + 1)), 0, 0)) hc125 2 rfl trivial ?_
                        refine R_reti hc125 rfl rfl ?_
                        first
                          | (exfalso; omega; done)
                          | exact ⟨(by rw [show ((((F 5) + 1) + 1) + 1) + 1 = (((F 5) + 1) + 1) + 1 by omega]), (u A 18 (wr (wr (wr (A 18) (F 5) ((b / 2 ^ (8 * (n - 1) : Int).toNat) % (255 + 1))) ((F 5) + 1) ((b / 2 ^ (8 * (n - 1 + (-1)) : Int).toNat) % (255 + 1))) (((F 5) + 1) + 1) ((b / 2 ^ (8 * (n - 1 + (-1) + (-1)) : Int).toNat) % (255 + 1)))), (u F 5 ((((F 5) + 1) + 1) + 1)), rfl, rfl, (REL_tape hR0 (by simp only [wr_len]) (by omega))⟩
                      · refine R_s (P := inI (8 * (n - 1 + (-1) + (-1) + (-1))) ∧ (0 ≤ 8 * (n - 1 + (-1) + (-1) + (-1)) ∧ 8 * (n - 1 + (-1) + (-1) + (-1)) < 32) ∧ (255 = 1 ∨ 255 = 63 ∨ 255 = 255) ∧ (0 ≤ (((F 5) + 1) + 1) + 1 ∧ (((F 5) + 1) + 1) + 1 < ((wr (wr (wr (A 18) (F 5) ((b / 2 ^ (8 * (n - 1) : Int).toNat) % (255 + 1))) ((F 5) + 1) ((b / 2 ^ (8 * (n - 1 + (-1)) : Int).toNat) % (255 + 1))) (((F 5) + 1) + 1) ((b / 2 ^ (8 * (n - 1 + (-1) + (-1)) : Int).toNat) % (255 + 1))).length : Int)) ∧ inI (((((F 5) + 1) + 1) + 1) + 1) ∧ inI (n - 1 + (-1) + (-1) + (-1) + (-1)) ∧ True) (f' := (5, [some (vR 17), some (vI b), some (vI n), some (vI (n - 1 + (-1) + (-1) + (-1) + (-1)))], [vI (n - 1 + (-1) + (-1) + (-1) + (-1))], LAY (u (shA A) 18 (wr (wr (wr (wr (A 18) (F 5) ((b / 2 ^ (8 * (n - 1) : Int).toNat) % (255 + 1))) ((F 5) + 1) ((b / 2 ^ (8 * (n - 1 + (-1)) : Int).toNat) % (255 + 1))) (((F 5) + 1) + 1) ((b / 2 ^ (8 * (n - 1 + (-1) + (-1)) : Int).toNat) % (255 + 1))) ((((F 5) + 1) + 1) + 1) ((b / 2 ^ (8 * (n - 1 + (-1) + (-1) + (-1)) : Int).toNat) % (255 + 1)))) (u (shF F) 5 (((((F 5) + 1) + 1) + 1) + 1)), 0, 0)) hc37 21 rfl ⟨⟨by omega, by omega⟩, ⟨by omega, by omega⟩, (by decide), ⟨by omega, by simp only [wr_len]; omega⟩, ⟨by omega, by omega⟩, ⟨by omega, by omega⟩, trivial⟩ ?_
                        refine R_if (t := 52) hc37 rfl rfl (fun (_ : n - 1 + (-1) + (-1) + (-1) + (-1) < 0) => ?_) (fun (z : ¬ (n - 1 + (-1) + (-1) + (-1) + (-1) < 0)) => absurd (show n - 1 + (-1) + (-1) + (-1) + (-1) < 0 by omega) z)
                        refine R_retv hc37 rfl rfl ?_
                        refine R_s (f' := (53, [some (vR 1), some (vI b), some (vI n)], [], LAY (u (shA A) 18 (wr (wr (wr (wr (A 18) (F 5) ((b / 2 ^ (8 * (n - 1) : Int).toNat) % (255 + 1))) ((F 5) + 1) ((b / 2 ^ (8 * (n - 1 + (-1)) : Int).toNat) % (255 + 1))) (((F 5) + 1) + 1) ((b / 2 ^ (8 * (n - 1 + (-1) + (-1)) : Int).toNat) % (255 + 1))) ((((F 5) + 1) + 1) + 1) ((b / 2 ^ (8 * (n - 1 + (-1) + (-1) + (-1)) : Int).toNat) % (255 + 1)))) (u (shF F) 5 (((((F 5) + 1) + 1) + 1) + 1)), 0, 0)) hc70 0 rfl trivial ?_
                        refine R_s (P := True) (f' := (60, [some (vR 1), some (vI b), some (vI n)], [vI (((((F 5) + 1) + 1) + 1) + 1)], LAY (u (shA A) 18 (wr (wr (wr (wr (A 18) (F 5) ((b / 2 ^ (8 * (n - 1) : Int).toNat) % (255 + 1))) ((F 5) + 1) ((b / 2 ^ (8 * (n - 1 + (-1)) : Int).toNat) % (255 + 1))) (((F 5) + 1) + 1) ((b / 2 ^ (8 * (n - 1 + (-1) + (-1)) : Int).toNat) % (255 + 1))) ((((F 5) + 1) + 1) + 1) ((b / 2 ^ (8 * (n - 1 + (-1) + (-1) + (-1)) : Int).toNat) % (255 + 1)))) (u (shF F) 5 (((((F 5) + 1) + 1) + 1) + 1)), 0, 0)) hc70 3 rfl trivial ?_
                        refine R_reti hc70 rfl rfl ⟨⟨_, rfl⟩, ⟨_, _, rfl, rfl⟩, ?_⟩
                        refine R_s (P := True) (f' := (1, [some (vR 88), some (vI b), some (vI n), none], [vI n], LAY (u (shA A) 18 (wr (wr (wr (wr (A 18) (F 5) ((b / 2 ^ (8 * (n - 1) : Int).toNat) % (255 + 1))) ((F 5) + 1) ((b / 2 ^ (8 * (n - 1 + (-1)) : Int).toNat) % (255 + 1))) (((F 5) + 1) + 1) ((b / 2 ^ (8 * (n - 1 + (-1) + (-1)) : Int).toNat) % (255 + 1))) ((((F 5) + 1) + 1) + 1) ((b / 2 ^ (8 * (n - 1 + (-1) + (-1) + (-1)) : Int).toNat) % (255 + 1)))) (u (shF F) 5 (((((F 5) + 1) + 1) + 1) + 1)), 0, 0)) hc125 1 rfl trivial ?_
                        refine R_if (t := 11) hc125 rfl rfl (fun (_ : 0 ≤ n) => ?_) (fun (z : ¬ (0 ≤ n)) => absurd (show 0 ≤ n by omega) z)
                        refine R_s (P := True) (f' := (13, [some (vR 88), some (vI b), some (vI n), none], [vI 4, vI n], LAY (u (shA A) 18 (wr (wr (wr (wr (A 18) (F 5) ((b / 2 ^ (8 * (n - 1) : Int).toNat) % (255 + 1))) ((F 5) + 1) ((b / 2 ^ (8 * (n - 1 + (-1)) : Int).toNat) % (255 + 1))) (((F 5) + 1) + 1) ((b / 2 ^ (8 * (n - 1 + (-1) + (-1)) : Int).toNat) % (255 + 1))) ((((F 5) + 1) + 1) + 1) ((b / 2 ^ (8 * (n - 1 + (-1) + (-1) + (-1)) : Int).toNat) % (255 + 1)))) (u (shF F) 5 (((((F 5) + 1) + 1) + 1) + 1)), 0, 0)) hc125 2 rfl trivial ?_
                        refine R_ic (t := 23) hc125 rfl rfl (fun (_ : n ≤ 4) => ?_) (fun (z : ¬ (n ≤ 4)) => absurd (show n ≤ 4 by omega) z)
                        refine R_s (P := inI ((F 5) + n) ∧ True) (f' := (31, [some (vR 88), some (vI b), some (vI n), none], [vI 120, vI ((F 5) + n)], LAY (u (shA A) 18 (wr (wr (wr (wr (A 18) (F 5) ((b / 2 ^ (8 * (n - 1) : Int).toNat) % (255 + 1))) ((F 5) + 1) ((b / 2 ^ (8 * (n - 1 + (-1)) : Int).toNat) % (255 + 1))) (((F 5) + 1) + 1) ((b / 2 ^ (8 * (n - 1 + (-1) + (-1)) : Int).toNat) % (255 + 1))) ((((F 5) + 1) + 1) + 1) ((b / 2 ^ (8 * (n - 1 + (-1) + (-1) + (-1)) : Int).toNat) % (255 + 1)))) (u (shF F) 5 (((((F 5) + 1) + 1) + 1) + 1)), 0, 0)) hc125 5 rfl ⟨⟨by omega, by omega⟩, trivial⟩ ?_
                        refine R_ic (t := 41) hc125 rfl rfl (fun (_ : (F 5) + n ≤ 120) => ?_) (fun (z : ¬ ((F 5) + n ≤ 120)) => absurd (show (F 5) + n ≤ 120 by omega) z)
                        refine R_s (P := inI (n - 1) ∧ True) (f' := (46, [some (vR 88), some (vI b), some (vI n), some (vI (n - 1))], [vI (n - 1)], LAY (u (shA A) 18 (wr (wr (wr (wr (A 18) (F 5) ((b / 2 ^ (8 * (n - 1) : Int).toNat) % (255 + 1))) ((F 5) + 1) ((b / 2 ^ (8 * (n - 1 + (-1)) : Int).toNat) % (255 + 1))) (((F 5) + 1) + 1) ((b / 2 ^ (8 * (n - 1 + (-1) + (-1)) : Int).toNat) % (255 + 1))) ((((F 5) + 1) + 1) + 1) ((b / 2 ^ (8 * (n - 1 + (-1) + (-1) + (-1)) : Int).toNat) % (255 + 1)))) (u (shF F) 5 (((((F 5) + 1) + 1) + 1) + 1)), 0, 0)) hc125 5 rfl ⟨⟨by omega, by omega⟩, trivial⟩ ?_
                        refine R_if (t := 84) hc125 rfl rfl (fun (z : n - 1 < 0) => absurd z (by omega)) (fun (_ : ¬ (n - 1 < 0)) => ?_)
                        refine R_s (P := inI (8 * (n - 1)) ∧ (0 ≤ 8 * (n - 1) ∧ 8 * (n - 1) < 32) ∧ (255 = 1 ∨ 255 = 63 ∨ 255 = 255) ∧ (0 ≤ F 5 ∧ F 5 < ((A 18).length : Int)) ∧ inI ((F 5) + 1) ∧ inI (n - 1 + (-1)) ∧ True) (f' := (46, [some (vR 88), some (vI b), some (vI n), some (vI (n - 1 + (-1)))], [vI (n - 1 + (-1))], LAY (u (u (shA A) 18 (wr (wr (wr (wr (A 18) (F 5) ((b / 2 ^ (8 * (n - 1) : Int).toNat) % (255 + 1))) ((F 5) + 1) ((b / 2 ^ (8 * (n - 1 + (-1)) : Int).toNat) % (255 + 1))) (((F 5) + 1) + 1) ((b / 2 ^ (8 * (n - 1 + (-1) + (-1)) : Int).toNat) % (255 + 1))) ((((F 5) + 1) + 1) + 1) ((b / 2 ^ (8 * (n - 1 + (-1) + (-1) + (-1)) : Int).toNat) % (255 + 1)))) 106 (wr (A 18) (F 5) ((b / 2 ^ (8 * (n - 1) : Int).toNat) % (255 + 1)))) (u (u (shF F) 5 (((((F 5) + 1) + 1) + 1) + 1)) 24 ((F 5) + 1)), 0, 0)) hc125 21 rfl ⟨⟨by omega, by omega⟩, ⟨by omega, by omega⟩, (by decide), ⟨by omega, by omega⟩, ⟨by omega, by omega⟩, ⟨by omega, by omega⟩, trivial⟩ ?_
                        refine R_if (t := 84) hc125 rfl rfl (fun (z : n - 1 + (-1) < 0) => absurd z (by omega)) (fun (_ : ¬ (n - 1 + (-1) < 0)) => ?_)
                        refine R_s (P := inI (8 * (n - 1 + (-1))) ∧ (0 ≤ 8 * (n - 1 + (-1)) ∧ 8 * (n - 1 + (-1)) < 32) ∧ (255 = 1 ∨ 255 = 63 ∨ 255 = 255) ∧ (0 ≤ (F 5) + 1 ∧ (F 5) + 1 < ((wr (A 18) (F 5) ((b / 2 ^ (8 * (n - 1) : Int).toNat) % (255 + 1))).length : Int)) ∧ inI (((F 5) + 1) + 1) ∧ inI (n - 1 + (-1) + (-1)) ∧ True) (f' := (46, [some (vR 88), some (vI b), some (vI n), some (vI (n - 1 + (-1) + (-1)))], [vI (n - 1 + (-1) + (-1))], LAY (u (u (shA A) 18 (wr (wr (wr (wr (A 18) (F 5) ((b / 2 ^ (8 * (n - 1) : Int).toNat) % (255 + 1))) ((F 5) + 1) ((b / 2 ^ (8 * (n - 1 + (-1)) : Int).toNat) % (255 + 1))) (((F 5) + 1) + 1) ((b / 2 ^ (8 * (n - 1 + (-1) + (-1)) : Int).toNat) % (255 + 1))) ((((F 5) + 1) + 1) + 1) ((b / 2 ^ (8 * (n - 1 + (-1) + (-1) + (-1)) : Int).toNat) % (255 + 1)))) 106 (wr (wr (A 18) (F 5) ((b / 2 ^ (8 * (n - 1) : Int).toNat) % (255 + 1))) ((F 5) + 1) ((b / 2 ^ (8 * (n - 1 + (-1)) : Int).toNat) % (255 + 1)))) (u (u (shF F) 5 (((((F 5) + 1) + 1) + 1) + 1)) 24 (((F 5) + 1) + 1)), 0, 0)) hc125 21 rfl ⟨⟨by omega, by omega⟩, ⟨by omega, by omega⟩, (by decide), ⟨by omega, by simp only [wr_len]; omega⟩, ⟨by omega, by omega⟩, ⟨by omega, by omega⟩, trivial⟩ ?_
                        refine R_if (t := 84) hc125 rfl rfl (fun (z : n - 1 + (-1) + (-1) < 0) => absurd z (by omega)) (fun (_ : ¬ (n - 1 + (-1) + (-1) < 0)) => ?_)
                        refine R_s (P := inI (8 * (n - 1 + (-1) + (-1))) ∧ (0 ≤ 8 * (n - 1 + (-1) + (-1)) ∧ 8 * (n - 1 + (-1) + (-1)) < 32) ∧ (255 = 1 ∨ 255 = 63 ∨ 255 = 255) ∧ (0 ≤ ((F 5) + 1) + 1 ∧ ((F 5) + 1) + 1 < ((wr (wr (A 18) (F 5) ((b / 2 ^ (8 * (n - 1) : Int).toNat) % (255 + 1))) ((F 5) + 1) ((b / 2 ^ (8 * (n - 1 + (-1)) : Int).toNat) % (255 + 1))).length : Int)) ∧ inI ((((F 5) + 1) + 1) + 1) ∧ inI (n - 1 + (-1) + (-1) + (-1)) ∧ True) (f' := (46, [some (vR 88), some (vI b), some (vI n), some (vI (n - 1 + (-1) + (-1) + (-1)))], [vI (n - 1 + (-1) + (-1) + (-1))], LAY (u (u (shA A) 18 (wr (wr (wr (wr (A 18) (F 5) ((b / 2 ^ (8 * (n - 1) : Int).toNat) % (255 + 1))) ((F 5) + 1) ((b / 2 ^ (8 * (n - 1 + (-1)) : Int).toNat) % (255 + 1))) (((F 5) + 1) + 1) ((b / 2 ^ (8 * (n - 1 + (-1) + (-1)) : Int).toNat) % (255 + 1))) ((((F 5) + 1) + 1) + 1) ((b / 2 ^ (8 * (n - 1 + (-1) + (-1) + (-1)) : Int).toNat) % (255 + 1)))) 106 (wr (wr (wr (A 18) (F 5) ((b / 2 ^ (8 * (n - 1) : Int).toNat) % (255 + 1))) ((F 5) + 1) ((b / 2 ^ (8 * (n - 1 + (-1)) : Int).toNat) % (255 + 1))) (((F 5) + 1) + 1) ((b / 2 ^ (8 * (n - 1 + (-1) + (-1)) : Int).toNat) % (255 + 1)))) (u (u (shF F) 5 (((((F 5) + 1) + 1) + 1) + 1)) 24 ((((F 5) + 1) + 1) + 1)), 0, 0)) hc125 21 rfl ⟨⟨by omega, by omega⟩, ⟨by omega, by omega⟩, (by decide), ⟨by omega, by simp only [wr_len]; omega⟩, ⟨by omega, by omega⟩, ⟨by omega, by omega⟩, trivial⟩ ?_
                        refine R_if (t := 84) hc125 rfl rfl (fun (z : n - 1 + (-1) + (-1) + (-1) < 0) => absurd z (by omega)) (fun (_ : ¬ (n - 1 + (-1) + (-1) + (-1) < 0)) => ?_)
                        refine R_s (P := inI (8 * (n - 1 + (-1) + (-1) + (-1))) ∧ (0 ≤ 8 * (n - 1 + (-1) + (-1) + (-1)) ∧ 8 * (n - 1 + (-1) + (-1) + (-1)) < 32) ∧ (255 = 1 ∨ 255 = 63 ∨ 255 = 255) ∧ (0 ≤ (((F 5) + 1) + 1) + 1 ∧ (((F 5) + 1) + 1) + 1 < ((wr (wr (wr (A 18) (F 5) ((b / 2 ^ (8 * (n - 1) : Int).toNat) % (255 + 1))) ((F 5) + 1) ((b / 2 ^ (8 * (n - 1 + (-1)) : Int).toNat) % (255 + 1))) (((F 5) + 1) + 1) ((b / 2 ^ (8 * (n - 1 + (-1) + (-1)) : Int).toNat) % (255 + 1))).length : Int)) ∧ inI (((((F 5) + 1) + 1) + 1) + 1) ∧ inI (n - 1 + (-1) + (-1) + (-1) + (-1)) ∧ True) (f' := (46, [some (vR 88), some (vI b), some (vI n), some (vI (n - 1 + (-1) + (-1) + (-1) + (-1)))], [vI (n - 1 + (-1) + (-1) + (-1) + (-1))], LAY (u (u (shA A) 18 (wr (wr (wr (wr (A 18) (F 5) ((b / 2 ^ (8 * (n - 1) : Int).toNat) % (255 + 1))) ((F 5) + 1) ((b / 2 ^ (8 * (n - 1 + (-1)) : Int).toNat) % (255 + 1))) (((F 5) + 1) + 1) ((b / 2 ^ (8 * (n - 1 + (-1) + (-1)) : Int).toNat) % (255 + 1))) ((((F 5) + 1) + 1) + 1) ((b / 2 ^ (8 * (n - 1 + (-1) + (-1) + (-1)) : Int).toNat) % (255 + 1)))) 106 (wr (wr (wr (wr (A 18) (F 5) ((b / 2 ^ (8 * (n - 1) : Int).toNat) % (255 + 1))) ((F 5) + 1) ((b / 2 ^ (8 * (n - 1 + (-1)) : Int).toNat) % (255 + 1))) (((F 5) + 1) + 1) ((b / 2 ^ (8 * (n - 1 + (-1) + (-1)) : Int).toNat) % (255 + 1))) ((((F 5) + 1) + 1) + 1) ((b / 2 ^ (8 * (n - 1 + (-1) + (-1) + (-1)) : Int).toNat) % (255 + 1)))) (u (u (shF F) 5 (((((F 5) + 1) + 1) + 1) + 1)) 24 (((((F 5) + 1) + 1) + 1) + 1)), 0, 0)) hc125 21 rfl ⟨⟨by omega, by omega⟩, ⟨by omega, by omega⟩, (by decide), ⟨by omega, by simp only [wr_len]; omega⟩, ⟨by omega, by omega⟩, ⟨by omega, by omega⟩, trivial⟩ ?_
                        refine R_if (t := 84) hc125 rfl rfl (fun (_ : n - 1 + (-1) + (-1) + (-1) + (-1) < 0) => ?_) (fun (z : ¬ (n - 1 + (-1) + (-1) + (-1) + (-1) < 0)) => absurd (show n - 1 + (-1) + (-1) + (-1) + (-1) < 0 by omega) z)
                        refine R_s (P := True) (f' := (88, [some (vR 88), some (vI b), some (vI n), some (vI (n - 1 + (-1) + (-1) + (-1) + (-1)))], [vI (((((F 5) + 1) + 1) + 1) + 1)], LAY (u (u (shA A) 18 (wr (wr (wr (wr (A 18) (F 5) ((b / 2 ^ (8 * (n - 1) : Int).toNat) % (255 + 1))) ((F 5) + 1) ((b / 2 ^ (8 * (n - 1 + (-1)) : Int).toNat) % (255 + 1))) (((F 5) + 1) + 1) ((b / 2 ^ (8 * (n - 1 + (-1) + (-1)) : Int).toNat) % (255 + 1))) ((((F 5) + 1) + 1) + 1) ((b / 2 ^ (8 * (n - 1 + (-1) + (-1) + (-1)) : Int).toNat) % (255 + 1)))) 106 (wr (wr (wr (wr (A 18) (F 5) ((b / 2 ^ (8 * (n - 1) : Int).toNat) % (255 + 1))) ((F 5) + 1) ((b / 2 ^ (8 * (n - 1 + (-1)) : Int).toNat) % (255 + 1))) (((F 5) + 1) + 1) ((b / 2 ^ (8 * (n - 1 + (-1) + (-1)) : Int).toNat) % (255 + 1))) ((((F 5) + 1) + 1) + 1) ((b / 2 ^ (8 * (n - 1 + (-1) + (-1) + (-1)) : Int).toNat) % (255 + 1)))) (u (u (shF F) 5 (((((F 5) + 1) + 1) + 1) + 1)) 24 (((((F 5) + 1) + 1) + 1) + 1)), 0, 0)) hc125 2 rfl trivial ?_
                        refine R_reti hc125 rfl rfl ?_
                        first
                          | (exfalso; omega; done)
                          | exact ⟨rfl, (u A 18 (wr (wr (wr (wr (A 18) (F 5) ((b / 2 ^ (8 * (n - 1) : Int).toNat) % (255 + 1))) ((F 5) + 1) ((b / 2 ^ (8 * (n - 1 + (-1)) : Int).toNat) % (255 + 1))) (((F 5) + 1) + 1) ((b / 2 ^ (8 * (n - 1 + (-1) + (-1)) : Int).toNat) % (255 + 1))) ((((F 5) + 1) + 1) + 1) ((b / 2 ^ (8 * (n - 1 + (-1) + (-1) + (-1)) : Int).toNat) % (255 + 1)))), (u F 5 (((((F 5) + 1) + 1) + 1) + 1)), rfl, rfl, (REL_tape hR0 (by simp only [wr_len]) (by omega))⟩
      · refine R_s (P := True) (f' := (40, [some (vR 1), some (vI b), some (vI n)], [vI (-8), vR 1], LAY (shA A) (shF F), 0, 0)) hc70 2 rfl trivial ?_
        refine R_cv hc70 rfl rfl ?_ (fun r G h => h)
        refine R_s (P := True) (f' := (3, [some (vR 1), some (vI (-8))], [vI (-2), vI (-8)], LAY (shA A) (shF F), 0, 0)) hc93 2 rfl trivial ?_
        refine R_ic (t := 23) hc93 rfl rfl (fun (z : (-2) < (-8)) => absurd z (by decide)) (fun (_ : ¬ ((-2) < (-8))) => ?_)
        refine R_s (P := True) (f' := (9, [some (vR 1), some (vI (-8))], [vI (-8), vI (-8)], LAY (shA A) (shF F), 0, 0)) hc93 2 rfl trivial ?_
        refine R_ic (t := 23) hc93 rfl rfl (fun (z : (-8) < (-8)) => absurd z (by decide)) (fun (_ : ¬ ((-8) < (-8))) => ?_)
        refine R_s (P := inI 8 ∧ (0 ≤ 8 ∧ 8 < ((A 87).length : Int)) ∧ inI ((rd (A 87) 8) + 1) ∧ (0 ≤ 8 ∧ 8 < ((A 87).length : Int)) ∧ True) (f' := (24, [some (vR 1), some (vI (-8))], [vI (-8)], LAY (u (shA A) 87 (wr (A 87) 8 ((rd (A 87) 8) + 1))) (shF F), 0, 0)) hc93 10 rfl ⟨⟨by omega, by omega⟩, ⟨by omega, by omega⟩, ⟨by omega, by omega⟩, ⟨by omega, by omega⟩, trivial⟩ ?_
        refine R_reti hc93 rfl rfl ?_
        refine R_s (f' := (43, [some (vR 1), some (vI b), some (vI n)], [vI (-8)], LAY (u (shA A) 87 (wr (A 87) 8 ((rd (A 87) 8) + 1))) (shF F), 0, 0)) hc70 0 rfl trivial ?_
        refine R_reti hc70 rfl rfl ⟨⟨_, rfl⟩, ⟨_, _, rfl, rfl⟩, ?_⟩
        refine R_s (P := True) (f' := (1, [some (vR 88), some (vI b), some (vI n), none], [vI n], LAY (u (shA A) 87 (wr (A 87) 8 ((rd (A 87) 8) + 1))) (shF F), 0, 0)) hc125 1 rfl trivial ?_
        refine R_if (t := 11) hc125 rfl rfl (fun (_ : 0 ≤ n) => ?_) (fun (z : ¬ (0 ≤ n)) => absurd (show 0 ≤ n by omega) z)
        refine R_s (P := True) (f' := (13, [some (vR 88), some (vI b), some (vI n), none], [vI 4, vI n], LAY (u (shA A) 87 (wr (A 87) 8 ((rd (A 87) 8) + 1))) (shF F), 0, 0)) hc125 2 rfl trivial ?_
        refine R_ic (t := 23) hc125 rfl rfl (fun (_ : n ≤ 4) => ?_) (fun (z : ¬ (n ≤ 4)) => absurd (show n ≤ 4 by omega) z)
        refine R_s (P := inI ((F 5) + n) ∧ True) (f' := (31, [some (vR 88), some (vI b), some (vI n), none], [vI 120, vI ((F 5) + n)], LAY (u (shA A) 87 (wr (A 87) 8 ((rd (A 87) 8) + 1))) (shF F), 0, 0)) hc125 5 rfl ⟨⟨by omega, by omega⟩, trivial⟩ ?_
        refine R_ic (t := 41) hc125 rfl rfl (fun (z : (F 5) + n ≤ 120) => absurd z (by omega)) (fun (_ : ¬ ((F 5) + n ≤ 120)) => ?_)
        refine R_s (P := True) (f' := (37, [some (vR 88), some (vI b), some (vI n), none], [vI (-8), vR 88], LAY (u (shA A) 87 (wr (A 87) 8 ((rd (A 87) 8) + 1))) (shF F), 0, 0)) hc125 2 rfl trivial ?_
        refine R_cv hc125 rfl rfl ?_ (fun r G h => h)
        refine R_s (P := inI 8 ∧ (0 ≤ 8 ∧ 8 < ((A 87).length : Int)) ∧ inI ((rd (A 87) 8) + 1) ∧ (0 ≤ 8 ∧ 8 < ((A 87).length : Int)) ∧ True) (f' := (12, [some (vR 88), some (vI (-8))], [vI (-8)], LAY (u (u (shA A) 87 (wr (A 87) 8 ((rd (A 87) 8) + 1))) 89 (wr (A 87) 8 ((rd (A 87) 8) + 1))) (shF F), 0, 0)) hc105 10 rfl ⟨⟨by omega, by omega⟩, ⟨by omega, by omega⟩, ⟨by omega, by omega⟩, ⟨by omega, by omega⟩, trivial⟩ ?_
        refine R_reti hc105 rfl rfl ?_
        refine R_s (f' := (40, [some (vR 88), some (vI b), some (vI n), none], [vI (-8)], LAY (u (u (shA A) 87 (wr (A 87) 8 ((rd (A 87) 8) + 1))) 89 (wr (A 87) 8 ((rd (A 87) 8) + 1))) (shF F), 0, 0)) hc125 0 rfl trivial ?_
        refine R_reti hc125 rfl rfl ?_
        first
          | (exfalso; omega; done)
          | exact ⟨rfl, (u A 87 (wr (A 87) 8 ((rd (A 87) 8) + 1))), F, rfl, rfl, REL_ref hR0 (by decide) (by decide)⟩
    · refine R_s (P := True) (f' := (19, [some (vR 1), some (vI b), some (vI n)], [vI (-7), vR 1], LAY (shA A) (shF F), 0, 0)) hc70 2 rfl trivial ?_
      refine R_cv hc70 rfl rfl ?_ (fun r G h => h)
      refine R_s (P := True) (f' := (3, [some (vR 1), some (vI (-7))], [vI (-2), vI (-7)], LAY (shA A) (shF F), 0, 0)) hc93 2 rfl trivial ?_
      refine R_ic (t := 23) hc93 rfl rfl (fun (z : (-2) < (-7)) => absurd z (by decide)) (fun (_ : ¬ ((-2) < (-7))) => ?_)
      refine R_s (P := True) (f' := (9, [some (vR 1), some (vI (-7))], [vI (-8), vI (-7)], LAY (shA A) (shF F), 0, 0)) hc93 2 rfl trivial ?_
      refine R_ic (t := 23) hc93 rfl rfl (fun (z : (-7) < (-8)) => absurd z (by decide)) (fun (_ : ¬ ((-7) < (-8))) => ?_)
      refine R_s (P := inI 7 ∧ (0 ≤ 7 ∧ 7 < ((A 87).length : Int)) ∧ inI ((rd (A 87) 7) + 1) ∧ (0 ≤ 7 ∧ 7 < ((A 87).length : Int)) ∧ True) (f' := (24, [some (vR 1), some (vI (-7))], [vI (-7)], LAY (u (shA A) 87 (wr (A 87) 7 ((rd (A 87) 7) + 1))) (shF F), 0, 0)) hc93 10 rfl ⟨⟨by omega, by omega⟩, ⟨by omega, by omega⟩, ⟨by omega, by omega⟩, ⟨by omega, by omega⟩, trivial⟩ ?_
      refine R_reti hc93 rfl rfl ?_
      refine R_s (f' := (22, [some (vR 1), some (vI b), some (vI n)], [vI (-7)], LAY (u (shA A) 87 (wr (A 87) 7 ((rd (A 87) 7) + 1))) (shF F), 0, 0)) hc70 0 rfl trivial ?_
      refine R_reti hc70 rfl rfl ⟨⟨_, rfl⟩, ⟨_, _, rfl, rfl⟩, ?_⟩
      refine R_s (P := True) (f' := (1, [some (vR 88), some (vI b), some (vI n), none], [vI n], LAY (u (shA A) 87 (wr (A 87) 7 ((rd (A 87) 7) + 1))) (shF F), 0, 0)) hc125 1 rfl trivial ?_
      refine R_if (t := 11) hc125 rfl rfl (fun (_ : 0 ≤ n) => ?_) (fun (z : ¬ (0 ≤ n)) => absurd (show 0 ≤ n by omega) z)
      refine R_s (P := True) (f' := (13, [some (vR 88), some (vI b), some (vI n), none], [vI 4, vI n], LAY (u (shA A) 87 (wr (A 87) 7 ((rd (A 87) 7) + 1))) (shF F), 0, 0)) hc125 2 rfl trivial ?_
      refine R_ic (t := 23) hc125 rfl rfl (fun (z : n ≤ 4) => absurd z (by omega)) (fun (_ : ¬ (n ≤ 4)) => ?_)
      refine R_s (P := True) (f' := (19, [some (vR 88), some (vI b), some (vI n), none], [vI (-7), vR 88], LAY (u (shA A) 87 (wr (A 87) 7 ((rd (A 87) 7) + 1))) (shF F), 0, 0)) hc125 2 rfl trivial ?_
      refine R_cv hc125 rfl rfl ?_ (fun r G h => h)
      refine R_s (P := inI 7 ∧ (0 ≤ 7 ∧ 7 < ((A 87).length : Int)) ∧ inI ((rd (A 87) 7) + 1) ∧ (0 ≤ 7 ∧ 7 < ((A 87).length : Int)) ∧ True) (f' := (12, [some (vR 88), some (vI (-7))], [vI (-7)], LAY (u (u (shA A) 87 (wr (A 87) 7 ((rd (A 87) 7) + 1))) 89 (wr (A 87) 7 ((rd (A 87) 7) + 1))) (shF F), 0, 0)) hc105 10 rfl ⟨⟨by omega, by omega⟩, ⟨by omega, by omega⟩, ⟨by omega, by omega⟩, ⟨by omega, by omega⟩, trivial⟩ ?_
      refine R_reti hc105 rfl rfl ?_
      refine R_s (f' := (22, [some (vR 88), some (vI b), some (vI n), none], [vI (-7)], LAY (u (u (shA A) 87 (wr (A 87) 7 ((rd (A 87) 7) + 1))) 89 (wr (A 87) 7 ((rd (A 87) 7) + 1))) (shF F), 0, 0)) hc125 0 rfl trivial ?_
      refine R_reti hc125 rfl rfl ?_
      first
        | (exfalso; omega; done)
        | exact ⟨rfl, (u A 87 (wr (A 87) 7 ((rd (A 87) 7) + 1))), F, rfl, rfl, REL_ref hR0 (by decide) (by decide)⟩
  · refine R_s (P := True) (f' := (7, [some (vR 1), some (vI b), some (vI n)], [vI (-4), vR 1], LAY (shA A) (shF F), 0, 0)) hc70 2 rfl trivial ?_
    refine R_cv hc70 rfl rfl ?_ (fun r G h => h)
    refine R_s (P := True) (f' := (3, [some (vR 1), some (vI (-4))], [vI (-2), vI (-4)], LAY (shA A) (shF F), 0, 0)) hc93 2 rfl trivial ?_
    refine R_ic (t := 23) hc93 rfl rfl (fun (z : (-2) < (-4)) => absurd z (by decide)) (fun (_ : ¬ ((-2) < (-4))) => ?_)
    refine R_s (P := True) (f' := (9, [some (vR 1), some (vI (-4))], [vI (-8), vI (-4)], LAY (shA A) (shF F), 0, 0)) hc93 2 rfl trivial ?_
    refine R_ic (t := 23) hc93 rfl rfl (fun (z : (-4) < (-8)) => absurd z (by decide)) (fun (_ : ¬ ((-4) < (-8))) => ?_)
    refine R_s (P := inI 4 ∧ (0 ≤ 4 ∧ 4 < ((A 87).length : Int)) ∧ inI ((rd (A 87) 4) + 1) ∧ (0 ≤ 4 ∧ 4 < ((A 87).length : Int)) ∧ True) (f' := (24, [some (vR 1), some (vI (-4))], [vI (-4)], LAY (u (shA A) 87 (wr (A 87) 4 ((rd (A 87) 4) + 1))) (shF F), 0, 0)) hc93 10 rfl ⟨⟨by omega, by omega⟩, ⟨by omega, by omega⟩, ⟨by omega, by omega⟩, ⟨by omega, by omega⟩, trivial⟩ ?_
    refine R_reti hc93 rfl rfl ?_
    refine R_s (f' := (10, [some (vR 1), some (vI b), some (vI n)], [vI (-4)], LAY (u (shA A) 87 (wr (A 87) 4 ((rd (A 87) 4) + 1))) (shF F), 0, 0)) hc70 0 rfl trivial ?_
    refine R_reti hc70 rfl rfl ⟨⟨_, rfl⟩, ⟨_, _, rfl, rfl⟩, ?_⟩
    refine R_s (P := True) (f' := (1, [some (vR 88), some (vI b), some (vI n), none], [vI n], LAY (u (shA A) 87 (wr (A 87) 4 ((rd (A 87) 4) + 1))) (shF F), 0, 0)) hc125 1 rfl trivial ?_
    refine R_if (t := 11) hc125 rfl rfl (fun (z : 0 ≤ n) => absurd z (by omega)) (fun (_ : ¬ (0 ≤ n)) => ?_)
    refine R_s (P := True) (f' := (7, [some (vR 88), some (vI b), some (vI n), none], [vI (-4), vR 88], LAY (u (shA A) 87 (wr (A 87) 4 ((rd (A 87) 4) + 1))) (shF F), 0, 0)) hc125 2 rfl trivial ?_
    refine R_cv hc125 rfl rfl ?_ (fun r G h => h)
    refine R_s (P := inI 4 ∧ (0 ≤ 4 ∧ 4 < ((A 87).length : Int)) ∧ inI ((rd (A 87) 4) + 1) ∧ (0 ≤ 4 ∧ 4 < ((A 87).length : Int)) ∧ True) (f' := (12, [some (vR 88), some (vI (-4))], [vI (-4)], LAY (u (u (shA A) 87 (wr (A 87) 4 ((rd (A 87) 4) + 1))) 89 (wr (A 87) 4 ((rd (A 87) 4) + 1))) (shF F), 0, 0)) hc105 10 rfl ⟨⟨by omega, by omega⟩, ⟨by omega, by omega⟩, ⟨by omega, by omega⟩, ⟨by omega, by omega⟩, trivial⟩ ?_
    refine R_reti hc105 rfl rfl ?_
    refine R_s (f' := (10, [some (vR 88), some (vI b), some (vI n), none], [vI (-4)], LAY (u (u (shA A) 87 (wr (A 87) 4 ((rd (A 87) 4) + 1))) 89 (wr (A 87) 4 ((rd (A 87) 4) + 1))) (shF F), 0, 0)) hc125 0 rfl trivial ?_
    refine R_reti hc125 rfl rfl ?_
    first
      | (exfalso; omega; done)
      | exact ⟨rfl, (u A 87 (wr (A 87) 4 ((rd (A 87) 4) + 1))), F, rfl, rfl, REL_ref hR0 (by decide) (by decide)⟩

