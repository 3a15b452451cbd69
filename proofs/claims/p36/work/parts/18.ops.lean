theorem sum6_wr {l : List Int} {t d v : Int} (hl : l.length = 60) (ht : 0 ≤ t ∧ t < 10) (hd : 0 ≤ d ∧ d < 6) (t' : Int) (ht' : 0 ≤ t' ∧ t' < 10) : sum6 (wr l (t * 6 + d) v) t' = if t' = t then sum6 l t + (v - rd l (t * 6 + d)) else sum6 l t' := by
  unfold sum6
  rw [rd_wr (by omega) (by omega) (by omega), rd_wr (by omega) (by omega) (by omega), rd_wr (by omega) (by omega) (by omega), rd_wr (by omega) (by omega) (by omega), rd_wr (by omega) (by omega) (by omega), rd_wr (by omega) (by omega) (by omega)]
  by_cases e : t' = t
  · subst e
    rw [if_pos rfl]
    obtain h | h | h | h | h | h : d = 0 ∨ d = 1 ∨ d = 2 ∨ d = 3 ∨ d = 4 ∨ d = 5 := by omega
    all_goals subst h
    · rw [if_pos (by omega), if_neg (by omega), if_neg (by omega), if_neg (by omega), if_neg (by omega), if_neg (by omega), show t' * 6 + 0 = t' * 6 by omega]; omega
    · rw [if_neg (by omega), if_pos rfl, if_neg (by omega), if_neg (by omega), if_neg (by omega), if_neg (by omega)]; omega
    · rw [if_neg (by omega), if_neg (by omega), if_pos rfl, if_neg (by omega), if_neg (by omega), if_neg (by omega)]; omega
    · rw [if_neg (by omega), if_neg (by omega), if_neg (by omega), if_pos rfl, if_neg (by omega), if_neg (by omega)]; omega
    · rw [if_neg (by omega), if_neg (by omega), if_neg (by omega), if_neg (by omega), if_pos rfl, if_neg (by omega)]; omega
    · rw [if_neg (by omega), if_neg (by omega), if_neg (by omega), if_neg (by omega), if_neg (by omega), if_pos rfl]; omega
  · rw [if_neg e, if_neg (by omega), if_neg (by omega), if_neg (by omega), if_neg (by omega), if_neg (by omega), if_neg (by omega)]
theorem REL_part {c : Int} {A : Nat → List Int} {F : Nat → Int} (h : REL c A F) {t d n : Int} (ht : 0 ≤ t ∧ t < F 4) (hd : 0 ≤ d ∧ d < F 0) (hn : 1 ≤ n ∧ n ≤ 12 - sum6 (A 16) t) : REL (c + 1) (u A 16 (wr (A 16) (t * 6 + d) (rd (A 16) (t * 6 + d) + n))) F := by
  obtain ⟨hL, hPE, ⟨t1, t2, t3, t4, t5, t6⟩, hTP, hDE, hLE, hNO, hAC, hRO, hRE⟩ := REL_c h
  have l16 : (A 16).length = 60 := hL 16 (by decide)
  have hd6 : F 0 ≤ 6 := hDE.1.2
  refine ⟨LENS_wr hL 16 _ _, hPE, ⟨t1, t2, t3, t4, fun i hi hi2 => ?_, fun t' h0 h1 => ?_⟩, hTP, hDE, hLE, hNO, hAC, hRO, hRE⟩
  · show 0 ≤ rd (wr (A 16) (t * 6 + d) (rd (A 16) (t * 6 + d) + n)) i ∧ rd (wr (A 16) (t * 6 + d) (rd (A 16) (t * 6 + d) + n)) i ≤ 12
    rw [rd_wr (by omega) (by omega) hi]
    have q := t5 i hi hi2
    have q0 := t5 (t * 6) (by omega) (by omega)
    have q1 := t5 (t * 6 + 1) (by omega) (by omega)
    have q2 := t5 (t * 6 + 2) (by omega) (by omega)
    have q3 := t5 (t * 6 + 3) (by omega) (by omega)
    have q4 := t5 (t * 6 + 4) (by omega) (by omega)
    have q5 := t5 (t * 6 + 5) (by omega) (by omega)
    by_cases e : i = t * 6 + d
    · rw [if_pos e]
      unfold sum6 at hn
      obtain h | h | h | h | h | h : d = 0 ∨ d = 1 ∨ d = 2 ∨ d = 3 ∨ d = 4 ∨ d = 5 := by omega
      all_goals subst h
      · rw [show t * 6 + 0 = t * 6 by omega]; omega
      all_goals omega
    · rw [if_neg e]
      exact q
  · show sum6 (wr (A 16) (t * 6 + d) (rd (A 16) (t * 6 + d) + n)) t' ≤ 12
    rw [sum6_wr l16 (by omega) (by omega) t' ⟨h0, h1⟩]
    have := t6 t' h0 h1
    split
    · omega
    · exact this
theorem REL_tape {c : Int} {A : Nat → List Int} {F : Nat → Int} (h : REL c A F) {l : List Int} {n : Int} (hl : l.length = (A 18).length) (hn : 0 ≤ n ∧ n ≤ 120) : REL (c + 1) (u A 18 l) (u F 5 n) := by
  obtain ⟨hL, hPE, hTH, hTP, hDE, hLE, hNO, hAC, hRO, hRE⟩ := REL_c h
  exact ⟨LENS_u hL hl, hPE, hTH, hn, hDE, hLE, hNO, hAC, hRO, hRE⟩
theorem REL_tape0 {c : Int} {A : Nat → List Int} {F : Nat → Int} (h : REL c A F) {n : Int} (hn : 0 ≤ n ∧ n ≤ 120) : REL (c + 1) A (u F 5 n) := by
  obtain ⟨hL, hPE, hTH, hTP, hDE, hLE, hNO, hAC, hRO, hRE⟩ := REL_c h
  exact ⟨hL, hPE, hTH, hn, hDE, hLE, hNO, hAC, hRO, hRE⟩
theorem op_account {c : Int} {A : Nat → List Int} {F : Nat → Int} (hR : REL c A F) (hc : c < 1000000) (w h : Int) (i_w : inI w) (i_h : inI h) (hh : h = 0 ∨ h = 1) : R 82 (0, L0 82 [vR 1, vI w, vI h], [], LAY (shA A) (shF F), 0, 0) (fun r G => ∃ (x : Int) (A' : Nat → List Int) (F' : Nat → Int), REL (c + 1) A' F' ∧ r = some (vJ x) ∧ G = LAY (shA A') (shF F') ∧ A' 0 = A 0 ∧ PST A F A' F' ∧ (h = 0 → 0 ≤ w → w < F 3 → x = rd (A 84) w) ∧ (h = 1 → 0 ≤ w → w < 8 → x = rd (A 85) w) ∧ (h = 1 → w = 8 → x = 0)) := by
  have hR0 := hR
  obtain ⟨hL, hPE, hTH, hTP, hDE, hLE, hNO, hAC, hRO, hRE⟩ := hR
  have j_w := i_w
  unfold inI at j_w
  have j_h := i_h
  unfold inI at j_h
  have h87 : (A 87).length = 9 := hL 87 (by decide)
  have h3 : (A 3).length = 30 := hL 3 (by decide)
  have h4 : (A 4).length = 30 := hL 4 (by decide)
  have h5 : (A 5).length = 30 := hL 5 (by decide)
  have h6 : (A 6).length = 30 := hL 6 (by decide)
  have h7 : (A 7).length = 30 := hL 7 (by decide)
  have h94 : (A 94).length = 30 := hL 94 (by decide)
  have h13 : (A 13).length = 10 := hL 13 (by decide)
  have h14 : (A 14).length = 10 := hL 14 (by decide)
  have h15 : (A 15).length = 10 := hL 15 (by decide)
  have h16 : (A 16).length = 60 := hL 16 (by decide)
  have h80 : (A 80).length = 30 := hL 80 (by decide)
  have h81 : (A 81).length = 30 := hL 81 (by decide)
  have h82 : (A 82).length = 30 := hL 82 (by decide)
  have h83 : (A 83).length = 30 := hL 83 (by decide)
  have h84 : (A 84).length = 30 := hL 84 (by decide)
  have h85 : (A 85).length = 8 := hL 85 (by decide)
  have h101 : (A 101).length = 38 := hL 101 (by decide)
  have h102 : (A 102).length = 90 := hL 102 (by decide)
  have r2 := REFU_at hRE (k := 2) (by decide) (by decide) hc
  have r3 := REFU_at hRE (k := 3) (by decide) (by decide) hc
  have r4 := REFU_at hRE (k := 4) (by decide) (by decide) hc
  have r5 := REFU_at hRE (k := 5) (by decide) (by decide) hc
  have r6 := REFU_at hRE (k := 6) (by decide) (by decide) hc
  have r7 := REFU_at hRE (k := 7) (by decide) (by decide) hc
  have r8 := REFU_at hRE (k := 8) (by decide) (by decide) hc
  obtain ⟨t1, t2, t3, t4, t5, t6⟩ := hTH
  obtain ⟨p1, p2, p3, p4, p5, p6⟩ := hPE
  have a1 := hAC.1 w
  have a2 := hAC.2 w
  refine R_s (P := True) (f' := (1, [some (vR 1), some (vI w), some (vI h)], [vI h], LAY (shA A) (shF F), 0, 0)) hc82 1 rfl trivial ?_
  refine R_if (t := 21) hc82 rfl rfl (fun (c1 : h = 0) => ?_) (fun (c1 : ¬ (h = 0)) => ?_)
  · refine R_s (P := True) (f' := (26, [some (vR 1), some (vI w), some (vI h)], [vI w, vR 2], LAY (shA A) (shF F), 0, 0)) hc82 3 rfl trivial ?_
    refine R_cv hc82 rfl rfl ?_ (fun r G h => h)
    refine R_s (P := True) (f' := (1, [some (vR 2), some (vI w)], [vI w], LAY (shA A) (shF F), 0, 0)) hc5 1 rfl trivial ?_
    refine R_if (t := 16) hc5 rfl rfl (fun (c2 : w < 0) => ?_) (fun (c2 : ¬ (w < 0)) => ?_)
    · refine R_s (P := True) (f' := (17, [some (vR 2), some (vI w)], [vI 0], LAY (shA A) (shF F), 0, 0)) hc5 1 rfl trivial ?_
      refine R_retz hc5 rfl rfl (Or.inl rfl) ?_
      refine R_s (f' := (29, [some (vR 1), some (vI w), some (vI h)], [vI 0], LAY (shA A) (shF F), 0, 0)) hc82 0 rfl trivial ?_
      refine R_if (t := 39) hc82 rfl rfl (fun (_ : 0 = 0) => ?_) (fun (z : ¬ (0 = 0)) => absurd (by decide) z)
      refine R_s (P := True) (f' := (42, [some (vR 1), some (vI w), some (vI h)], [vI (-3), vR 1], LAY (shA A) (shF F), 0, 0)) hc82 2 rfl trivial ?_
      refine R_cv hc82 rfl rfl ?_ (fun r G h => h)
      refine R_s (P := True) (f' := (3, [some (vR 1), some (vI (-3))], [vI (-2), vI (-3)], LAY (shA A) (shF F), 0, 0)) hc93 2 rfl trivial ?_
      refine R_ic (t := 23) hc93 rfl rfl (fun (z : (-2) < (-3)) => absurd z (by decide)) (fun (_ : ¬ ((-2) < (-3))) => ?_)
      refine R_s (P := True) (f' := (9, [some (vR 1), some (vI (-3))], [vI (-8), vI (-3)], LAY (shA A) (shF F), 0, 0)) hc93 2 rfl trivial ?_
      refine R_ic (t := 23) hc93 rfl rfl (fun (z : (-3) < (-8)) => absurd z (by decide)) (fun (_ : ¬ ((-3) < (-8))) => ?_)
      refine R_s (P := inI 3 ∧ (0 ≤ 3 ∧ 3 < ((A 87).length : Int)) ∧ inI ((rd (A 87) 3) + 1) ∧ (0 ≤ 3 ∧ 3 < ((A 87).length : Int)) ∧ True) (f' := (24, [some (vR 1), some (vI (-3))], [vI (-3)], LAY (u (shA A) 87 (wr (A 87) 3 ((rd (A 87) 3) + 1))) (shF F), 0, 0)) hc93 10 rfl ⟨⟨by omega, by omega⟩, ⟨by omega, by omega⟩, ⟨by omega, by omega⟩, ⟨by omega, by omega⟩, trivial⟩ ?_
      refine R_reti hc93 rfl rfl ?_
      refine R_s (f' := (45, [some (vR 1), some (vI w), some (vI h)], [vI (-3)], LAY (u (shA A) 87 (wr (A 87) 3 ((rd (A 87) 3) + 1))) (shF F), 0, 0)) hc82 0 rfl trivial ?_
      refine R_s (P := True) (f' := (47, [some (vR 1), some (vI w), some (vI h)], [vJ 0], LAY (u (shA A) 87 (wr (A 87) 3 ((rd (A 87) 3) + 1))) (shF F), 0, 0)) hc82 2 rfl trivial ?_
      refine R_retl hc82 rfl rfl ?_
      first
        | (exfalso; omega; done)
        | exact ⟨0, (u A 87 (wr (A 87) 3 ((rd (A 87) 3) + 1))), F, REL_ref hR0 (by decide) (by decide), rfl, rfl, rfl, ⟨(by repeat (first | exact PST_0 | refine PST_A rfl ?_ | refine PST_F rfl ?_)), fun h1 h2 h3 => by first | rfl | (exfalso; omega), fun h1 h2 h3 => by first | rfl | (exfalso; omega), fun h1 h2 => by first | rfl | (exfalso; omega)⟩⟩
    · refine R_s (P := True) (f' := (9, [some (vR 2), some (vI w)], [vI (F 3), vI w], LAY (shA A) (shF F), 0, 0)) hc5 3 rfl trivial ?_
      refine R_ic (t := 16) hc5 rfl rfl (fun (c3 : F 3 ≤ w) => ?_) (fun (c3 : ¬ (F 3 ≤ w)) => ?_)
      · refine R_s (P := True) (f' := (17, [some (vR 2), some (vI w)], [vI 0], LAY (shA A) (shF F), 0, 0)) hc5 1 rfl trivial ?_
        refine R_retz hc5 rfl rfl (Or.inl rfl) ?_
        refine R_s (f' := (29, [some (vR 1), some (vI w), some (vI h)], [vI 0], LAY (shA A) (shF F), 0, 0)) hc82 0 rfl trivial ?_
        refine R_if (t := 39) hc82 rfl rfl (fun (_ : 0 = 0) => ?_) (fun (z : ¬ (0 = 0)) => absurd (by decide) z)
        refine R_s (P := True) (f' := (42, [some (vR 1), some (vI w), some (vI h)], [vI (-3), vR 1], LAY (shA A) (shF F), 0, 0)) hc82 2 rfl trivial ?_
        refine R_cv hc82 rfl rfl ?_ (fun r G h => h)
        refine R_s (P := True) (f' := (3, [some (vR 1), some (vI (-3))], [vI (-2), vI (-3)], LAY (shA A) (shF F), 0, 0)) hc93 2 rfl trivial ?_
        refine R_ic (t := 23) hc93 rfl rfl (fun (z : (-2) < (-3)) => absurd z (by decide)) (fun (_ : ¬ ((-2) < (-3))) => ?_)
        refine R_s (P := True) (f' := (9, [some (vR 1), some (vI (-3))], [vI (-8), vI (-3)], LAY (shA A) (shF F), 0, 0)) hc93 2 rfl trivial ?_
        refine R_ic (t := 23) hc93 rfl rfl (fun (z : (-3) < (-8)) => absurd z (by decide)) (fun (_ : ¬ ((-3) < (-8))) => ?_)
        refine R_s (P := inI 3 ∧ (0 ≤ 3 ∧ 3 < ((A 87).length : Int)) ∧ inI ((rd (A 87) 3) + 1) ∧ (0 ≤ 3 ∧ 3 < ((A 87).length : Int)) ∧ True) (f' := (24, [some (vR 1), some (vI (-3))], [vI (-3)], LAY (u (shA A) 87 (wr (A 87) 3 ((rd (A 87) 3) + 1))) (shF F), 0, 0)) hc93 10 rfl ⟨⟨by omega, by omega⟩, ⟨by omega, by omega⟩, ⟨by omega, by omega⟩, ⟨by omega, by omega⟩, trivial⟩ ?_
        refine R_reti hc93 rfl rfl ?_
        refine R_s (f' := (45, [some (vR 1), some (vI w), some (vI h)], [vI (-3)], LAY (u (shA A) 87 (wr (A 87) 3 ((rd (A 87) 3) + 1))) (shF F), 0, 0)) hc82 0 rfl trivial ?_
        refine R_s (P := True) (f' := (47, [some (vR 1), some (vI w), some (vI h)], [vJ 0], LAY (u (shA A) 87 (wr (A 87) 3 ((rd (A 87) 3) + 1))) (shF F), 0, 0)) hc82 2 rfl trivial ?_
        refine R_retl hc82 rfl rfl ?_
        first
          | (exfalso; omega; done)
          | exact ⟨0, (u A 87 (wr (A 87) 3 ((rd (A 87) 3) + 1))), F, REL_ref hR0 (by decide) (by decide), rfl, rfl, rfl, ⟨(by repeat (first | exact PST_0 | refine PST_A rfl ?_ | refine PST_F rfl ?_)), fun h1 h2 h3 => by first | rfl | (exfalso; omega), fun h1 h2 h3 => by first | rfl | (exfalso; omega), fun h1 h2 => by first | rfl | (exfalso; omega)⟩⟩
      · refine R_s (P := True) (f' := (17, [some (vR 2), some (vI w)], [vI 1], LAY (shA A) (shF F), 0, 0)) hc5 2 rfl trivial ?_
        refine R_retz hc5 rfl rfl (Or.inr rfl) ?_
        refine R_s (f' := (29, [some (vR 1), some (vI w), some (vI h)], [vI 1], LAY (shA A) (shF F), 0, 0)) hc82 0 rfl trivial ?_
        refine R_if (t := 39) hc82 rfl rfl (fun (z : 1 = 0) => absurd z (by decide)) (fun (_ : ¬ (1 = 0)) => ?_)
        refine R_s (P := (0 ≤ w ∧ w < ((A 84).length : Int)) ∧ True) (f' := (38, [some (vR 1), some (vI w), some (vI h)], [vJ (rd (A 84) w)], LAY (shA A) (shF F), 0, 0)) hc82 4 rfl ⟨⟨by omega, by omega⟩, trivial⟩ ?_
        refine R_retl hc82 rfl rfl ?_
        first
          | (exfalso; omega; done)
          | exact ⟨rd (A 84) w, A, F, REL_c hR0, rfl, rfl, rfl, ⟨(by repeat (first | exact PST_0 | refine PST_A rfl ?_ | refine PST_F rfl ?_)), fun h1 h2 h3 => by first | rfl | (exfalso; omega), fun h1 h2 h3 => by first | rfl | (exfalso; omega), fun h1 h2 => by first | rfl | (exfalso; omega)⟩⟩
  · refine R_s (P := True) (f' := (5, [some (vR 1), some (vI w), some (vI h)], [vI w], LAY (shA A) (shF F), 0, 0)) hc82 1 rfl trivial ?_
    refine R_if (t := 39) hc82 rfl rfl (fun (c5 : w < 0) => ?_) (fun (c5 : ¬ (w < 0)) => ?_)
    · refine R_s (P := True) (f' := (42, [some (vR 1), some (vI w), some (vI h)], [vI (-3), vR 1], LAY (shA A) (shF F), 0, 0)) hc82 2 rfl trivial ?_
      refine R_cv hc82 rfl rfl ?_ (fun r G h => h)
      refine R_s (P := True) (f' := (3, [some (vR 1), some (vI (-3))], [vI (-2), vI (-3)], LAY (shA A) (shF F), 0, 0)) hc93 2 rfl trivial ?_
      refine R_ic (t := 23) hc93 rfl rfl (fun (z : (-2) < (-3)) => absurd z (by decide)) (fun (_ : ¬ ((-2) < (-3))) => ?_)
      refine R_s (P := True) (f' := (9, [some (vR 1), some (vI (-3))], [vI (-8), vI (-3)], LAY (shA A) (shF F), 0, 0)) hc93 2 rfl trivial ?_
      refine R_ic (t := 23) hc93 rfl rfl (fun (z : (-3) < (-8)) => absurd z (by decide)) (fun (_ : ¬ ((-3) < (-8))) => ?_)
      refine R_s (P := inI 3 ∧ (0 ≤ 3 ∧ 3 < ((A 87).length : Int)) ∧ inI ((rd (A 87) 3) + 1) ∧ (0 ≤ 3 ∧ 3 < ((A 87).length : Int)) ∧ True) (f' := (24, [some (vR 1), some (vI (-3))], [vI (-3)], LAY (u (shA A) 87 (wr (A 87) 3 ((rd (A 87) 3) + 1))) (shF F), 0, 0)) hc93 10 rfl ⟨⟨by omega, by omega⟩, ⟨by omega, by omega⟩, ⟨by omega, by omega⟩, ⟨by omega, by omega⟩, trivial⟩ ?_
      refine R_reti hc93 rfl rfl ?_
      refine R_s (f' := (45, [some (vR 1), some (vI w), some (vI h)], [vI (-3)], LAY (u (shA A) 87 (wr (A 87) 3 ((rd (A 87) 3) + 1))) (shF F), 0, 0)) hc82 0 rfl trivial ?_
      refine R_s (P := True) (f' := (47, [some (vR 1), some (vI w), some (vI h)], [vJ 0], LAY (u (shA A) 87 (wr (A 87) 3 ((rd (A 87) 3) + 1))) (shF F), 0, 0)) hc82 2 rfl trivial ?_
      refine R_retl hc82 rfl rfl ?_
      first
        | (exfalso; omega; done)
        | exact ⟨0, (u A 87 (wr (A 87) 3 ((rd (A 87) 3) + 1))), F, REL_ref hR0 (by decide) (by decide), rfl, rfl, rfl, ⟨(by repeat (first | exact PST_0 | refine PST_A rfl ?_ | refine PST_F rfl ?_)), fun h1 h2 h3 => by first | rfl | (exfalso; omega), fun h1 h2 h3 => by first | rfl | (exfalso; omega), fun h1 h2 => by first | rfl | (exfalso; omega)⟩⟩
    · refine R_s (P := True) (f' := (11, [some (vR 1), some (vI w), some (vI h)], [vI 8, vI w], LAY (shA A) (shF F), 0, 0)) hc82 2 rfl trivial ?_
      refine R_ic (t := 39) hc82 rfl rfl (fun (c8 : 8 ≤ w) => ?_) (fun (c8 : ¬ (8 ≤ w)) => ?_)
      · refine R_s (P := True) (f' := (42, [some (vR 1), some (vI w), some (vI h)], [vI (-3), vR 1], LAY (shA A) (shF F), 0, 0)) hc82 2 rfl trivial ?_
        refine R_cv hc82 rfl rfl ?_ (fun r G h => h)
        refine R_s (P := True) (f' := (3, [some (vR 1), some (vI (-3))], [vI (-2), vI (-3)], LAY (shA A) (shF F), 0, 0)) hc93 2 rfl trivial ?_
        refine R_ic (t := 23) hc93 rfl rfl (fun (z : (-2) < (-3)) => absurd z (by decide)) (fun (_ : ¬ ((-2) < (-3))) => ?_)
        refine R_s (P := True) (f' := (9, [some (vR 1), some (vI (-3))], [vI (-8), vI (-3)], LAY (shA A) (shF F), 0, 0)) hc93 2 rfl trivial ?_
        refine R_ic (t := 23) hc93 rfl rfl (fun (z : (-3) < (-8)) => absurd z (by decide)) (fun (_ : ¬ ((-3) < (-8))) => ?_)
        refine R_s (P := inI 3 ∧ (0 ≤ 3 ∧ 3 < ((A 87).length : Int)) ∧ inI ((rd (A 87) 3) + 1) ∧ (0 ≤ 3 ∧ 3 < ((A 87).length : Int)) ∧ True) (f' := (24, [some (vR 1), some (vI (-3))], [vI (-3)], LAY (u (shA A) 87 (wr (A 87) 3 ((rd (A 87) 3) + 1))) (shF F), 0, 0)) hc93 10 rfl ⟨⟨by omega, by omega⟩, ⟨by omega, by omega⟩, ⟨by omega, by omega⟩, ⟨by omega, by omega⟩, trivial⟩ ?_
        refine R_reti hc93 rfl rfl ?_
        refine R_s (f' := (45, [some (vR 1), some (vI w), some (vI h)], [vI (-3)], LAY (u (shA A) 87 (wr (A 87) 3 ((rd (A 87) 3) + 1))) (shF F), 0, 0)) hc82 0 rfl trivial ?_
        refine R_s (P := True) (f' := (47, [some (vR 1), some (vI w), some (vI h)], [vJ 0], LAY (u (shA A) 87 (wr (A 87) 3 ((rd (A 87) 3) + 1))) (shF F), 0, 0)) hc82 2 rfl trivial ?_
        refine R_retl hc82 rfl rfl ?_
        first
          | (exfalso; omega; done)
          | exact ⟨0, (u A 87 (wr (A 87) 3 ((rd (A 87) 3) + 1))), F, REL_ref hR0 (by decide) (by decide), rfl, rfl, rfl, ⟨(by repeat (first | exact PST_0 | refine PST_A rfl ?_ | refine PST_F rfl ?_)), fun h1 h2 h3 => by first | rfl | (exfalso; omega), fun h1 h2 h3 => by first | rfl | (exfalso; omega), fun h1 h2 => by first | rfl | (exfalso; omega)⟩⟩
      · refine R_s (P := (0 ≤ w ∧ w < ((A 85).length : Int)) ∧ True) (f' := (20, [some (vR 1), some (vI w), some (vI h)], [vJ (rd (A 85) w)], LAY (shA A) (shF F), 0, 0)) hc82 4 rfl ⟨⟨by omega, by omega⟩, trivial⟩ ?_
        refine R_retl hc82 rfl rfl ?_
        first
          | (exfalso; omega; done)
          | exact ⟨rd (A 85) w, A, F, REL_c hR0, rfl, rfl, rfl, ⟨(by repeat (first | exact PST_0 | refine PST_A rfl ?_ | refine PST_F rfl ?_)), fun h1 h2 h3 => by first | rfl | (exfalso; omega), fun h1 h2 h3 => by first | rfl | (exfalso; omega), fun h1 h2 => by first | rfl | (exfalso; omega)⟩⟩

theorem op_part {c : Int} {A : Nat → List Int} {F : Nat → Int} (hR : REL c A F) (hc : c < 1000000) (t d n : Int) (i_t : inI t) (i_d : inI d) (i_n : inI n) : R 68 (0, L0 68 [vR 1, vI t, vI d, vI n], [], LAY (shA A) (shF F), 0, 0) (fun r G => ∃ (x : Int) (A' : Nat → List Int) (F' : Nat → Int), REL (c + 1) A' F' ∧ r = some (vI x) ∧ G = LAY (shA A') (shF F') ∧ A' 0 = A 0 ∧ KP A F A' F') := by
  have hR0 := hR
  obtain ⟨hL, hPE, hTH, hTP, hDE, hLE, hNO, hAC, hRO, hRE⟩ := hR
  have j_t := i_t
  unfold inI at j_t
  have j_d := i_d
  unfold inI at j_d
  have j_n := i_n
  unfold inI at j_n
  have h87 : (A 87).length = 9 := hL 87 (by decide)
  have h3 : (A 3).length = 30 := hL 3 (by decide)
  have h4 : (A 4).length = 30 := hL 4 (by decide)
  have h5 : (A 5).length = 30 := hL 5 (by decide)
  have h6 : (A 6).length = 30 := hL 6 (by decide)
  have h7 : (A 7).length = 30 := hL 7 (by decide)
  have h94 : (A 94).length = 30 := hL 94 (by decide)
  have h13 : (A 13).length = 10 := hL 13 (by decide)
  have h14 : (A 14).length = 10 := hL 14 (by decide)
  have h15 : (A 15).length = 10 := hL 15 (by decide)
  have h16 : (A 16).length = 60 := hL 16 (by decide)
  have h80 : (A 80).length = 30 := hL 80 (by decide)
  have h81 : (A 81).length = 30 := hL 81 (by decide)
  have h82 : (A 82).length = 30 := hL 82 (by decide)
  have h83 : (A 83).length = 30 := hL 83 (by decide)
  have h84 : (A 84).length = 30 := hL 84 (by decide)
  have h85 : (A 85).length = 8 := hL 85 (by decide)
  have h101 : (A 101).length = 38 := hL 101 (by decide)
  have h102 : (A 102).length = 90 := hL 102 (by decide)
  have r2 := REFU_at hRE (k := 2) (by decide) (by decide) hc
  have r3 := REFU_at hRE (k := 3) (by decide) (by decide) hc
  have r4 := REFU_at hRE (k := 4) (by decide) (by decide) hc
  have r5 := REFU_at hRE (k := 5) (by decide) (by decide) hc
  have r6 := REFU_at hRE (k := 6) (by decide) (by decide) hc
  have r7 := REFU_at hRE (k := 7) (by decide) (by decide) hc
  have r8 := REFU_at hRE (k := 8) (by decide) (by decide) hc
  obtain ⟨t1, t2, t3, t4, t5, t6⟩ := hTH
  obtain ⟨p1, p2, p3, p4, p5, p6⟩ := hPE
  have g0 := t5 (t * 6 + 0)
  have m0 : rd (A 16) (6 * t + 0) = rd (A 16) (t * 6 + 0) := by rw [show 6 * t + 0 = t * 6 + 0 by omega]
  have g1 := t5 (t * 6 + 1)
  have m1 : rd (A 16) (6 * t + 1) = rd (A 16) (t * 6 + 1) := by rw [show 6 * t + 1 = t * 6 + 1 by omega]
  have g2 := t5 (t * 6 + 2)
  have m2 : rd (A 16) (6 * t + 2) = rd (A 16) (t * 6 + 2) := by rw [show 6 * t + 2 = t * 6 + 2 by omega]
  have g3 := t5 (t * 6 + 3)
  have m3 : rd (A 16) (6 * t + 3) = rd (A 16) (t * 6 + 3) := by rw [show 6 * t + 3 = t * 6 + 3 by omega]
  have g4 := t5 (t * 6 + 4)
  have m4 : rd (A 16) (6 * t + 4) = rd (A 16) (t * 6 + 4) := by rw [show 6 * t + 4 = t * 6 + 4 by omega]
  have g5 := t5 (t * 6 + 5)
  have m5 : rd (A 16) (6 * t + 5) = rd (A 16) (t * 6 + 5) := by rw [show 6 * t + 5 = t * 6 + 5 by omega]
  have s6 := t6 t
  have g60 : rd (A 16) (t * 6) = rd (A 16) (t * 6 + 0) := by rw [show t * 6 + 0 = t * 6 by omega]
  unfold sum6 at s6
  have gd := t5 (t * 6 + d)
  have md : rd (A 16) (6 * t + d) = rd (A 16) (t * 6 + d) := by rw [show 6 * t + d = t * 6 + d by omega]
  refine R_s (P := True) (f' := (5, [some (vR 1), some (vI t), some (vI d), some (vI n)], [vI t, vR 12], LAY (shA A) (shF F), 0, 0)) hc68 3 rfl trivial ?_
  refine R_cv hc68 rfl rfl ?_ (fun r G h => h)
  refine R_s (P := True) (f' := (1, [some (vR 12), some (vI t)], [vI t], LAY (shA A) (shF F), 0, 0)) hc52 1 rfl trivial ?_
  refine R_if (t := 16) hc52 rfl rfl (fun (c1 : t < 0) => ?_) (fun (c1 : ¬ (t < 0)) => ?_)
  · refine R_s (P := True) (f' := (17, [some (vR 12), some (vI t)], [vI 0], LAY (shA A) (shF F), 0, 0)) hc52 1 rfl trivial ?_
    refine R_retz hc52 rfl rfl (Or.inl rfl) ?_
    refine R_s (f' := (8, [some (vR 1), some (vI t), some (vI d), some (vI n)], [vI 0], LAY (shA A) (shF F), 0, 0)) hc68 0 rfl trivial ?_
    refine R_if (t := 19) hc68 rfl rfl (fun (_ : 0 = 0) => ?_) (fun (z : ¬ (0 = 0)) => absurd (by decide) z)
    refine R_s (P := True) (f' := (22, [some (vR 1), some (vI t), some (vI d), some (vI n)], [vI (-3), vR 1], LAY (shA A) (shF F), 0, 0)) hc68 2 rfl trivial ?_
    refine R_cv hc68 rfl rfl ?_ (fun r G h => h)
    refine R_s (P := True) (f' := (3, [some (vR 1), some (vI (-3))], [vI (-2), vI (-3)], LAY (shA A) (shF F), 0, 0)) hc93 2 rfl trivial ?_
    refine R_ic (t := 23) hc93 rfl rfl (fun (z : (-2) < (-3)) => absurd z (by decide)) (fun (_ : ¬ ((-2) < (-3))) => ?_)
    refine R_s (P := True) (f' := (9, [some (vR 1), some (vI (-3))], [vI (-8), vI (-3)], LAY (shA A) (shF F), 0, 0)) hc93 2 rfl trivial ?_
    refine R_ic (t := 23) hc93 rfl rfl (fun (z : (-3) < (-8)) => absurd z (by decide)) (fun (_ : ¬ ((-3) < (-8))) => ?_)
    refine R_s (P := inI 3 ∧ (0 ≤ 3 ∧ 3 < ((A 87).length : Int)) ∧ inI ((rd (A 87) 3) + 1) ∧ (0 ≤ 3 ∧ 3 < ((A 87).length : Int)) ∧ True) (f' := (24, [some (vR 1), some (vI (-3))], [vI (-3)], LAY (u (shA A) 87 (wr (A 87) 3 ((rd (A 87) 3) + 1))) (shF F), 0, 0)) hc93 10 rfl ⟨⟨by omega, by omega⟩, ⟨by omega, by omega⟩, ⟨by omega, by omega⟩, ⟨by omega, by omega⟩, trivial⟩ ?_
    refine R_reti hc93 rfl rfl ?_
    refine R_s (f' := (25, [some (vR 1), some (vI t), some (vI d), some (vI n)], [vI (-3)], LAY (u (shA A) 87 (wr (A 87) 3 ((rd (A 87) 3) + 1))) (shF F), 0, 0)) hc68 0 rfl trivial ?_
    refine R_reti hc68 rfl rfl ?_
    first
      | (exfalso; omega; done)
      | exact ⟨(-3), (u A 87 (wr (A 87) 3 ((rd (A 87) 3) + 1))), F, REL_ref hR0 (by decide) (by decide), rfl, rfl, rfl, ⟨rfl, rfl, rfl, rfl, by first | exact Int.le_refl _ | (show F 3 ≤ F 3 + 1; omega), rfl, rfl, rfl, rfl, rfl, rfl⟩⟩
  · refine R_s (P := True) (f' := (9, [some (vR 12), some (vI t)], [vI (F 4), vI t], LAY (shA A) (shF F), 0, 0)) hc52 3 rfl trivial ?_
    refine R_ic (t := 16) hc52 rfl rfl (fun (c2 : F 4 ≤ t) => ?_) (fun (c2 : ¬ (F 4 ≤ t)) => ?_)
    · refine R_s (P := True) (f' := (17, [some (vR 12), some (vI t)], [vI 0], LAY (shA A) (shF F), 0, 0)) hc52 1 rfl trivial ?_
      refine R_retz hc52 rfl rfl (Or.inl rfl) ?_
      refine R_s (f' := (8, [some (vR 1), some (vI t), some (vI d), some (vI n)], [vI 0], LAY (shA A) (shF F), 0, 0)) hc68 0 rfl trivial ?_
      refine R_if (t := 19) hc68 rfl rfl (fun (_ : 0 = 0) => ?_) (fun (z : ¬ (0 = 0)) => absurd (by decide) z)
      refine R_s (P := True) (f' := (22, [some (vR 1), some (vI t), some (vI d), some (vI n)], [vI (-3), vR 1], LAY (shA A) (shF F), 0, 0)) hc68 2 rfl trivial ?_
      refine R_cv hc68 rfl rfl ?_ (fun r G h => h)
      refine R_s (P := True) (f' := (3, [some (vR 1), some (vI (-3))], [vI (-2), vI (-3)], LAY (shA A) (shF F), 0, 0)) hc93 2 rfl trivial ?_
      refine R_ic (t := 23) hc93 rfl rfl (fun (z : (-2) < (-3)) => absurd z (by decide)) (fun (_ : ¬ ((-2) < (-3))) => ?_)
      refine R_s (P := True) (f' := (9, [some (vR 1), some (vI (-3))], [vI (-8), vI (-3)], LAY (shA A) (shF F), 0, 0)) hc93 2 rfl trivial ?_
      refine R_ic (t := 23) hc93 rfl rfl (fun (z : (-3) < (-8)) => absurd z (by decide)) (fun (_ : ¬ ((-3) < (-8))) => ?_)
      refine R_s (P := inI 3 ∧ (0 ≤ 3 ∧ 3 < ((A 87).length : Int)) ∧ inI ((rd (A 87) 3) + 1) ∧ (0 ≤ 3 ∧ 3 < ((A 87).length : Int)) ∧ True) (f' := (24, [some (vR 1), some (vI (-3))], [vI (-3)], LAY (u (shA A) 87 (wr (A 87) 3 ((rd (A 87) 3) + 1))) (shF F), 0, 0)) hc93 10 rfl ⟨⟨by omega, by omega⟩, ⟨by omega, by omega⟩, ⟨by omega, by omega⟩, ⟨by omega, by omega⟩, trivial⟩ ?_
      refine R_reti hc93 rfl rfl ?_
      refine R_s (f' := (25, [some (vR 1), some (vI t), some (vI d), some (vI n)], [vI (-3)], LAY (u (shA A) 87 (wr (A 87) 3 ((rd (A 87) 3) + 1))) (shF F), 0, 0)) hc68 0 rfl trivial ?_
      refine R_reti hc68 rfl rfl ?_
      first
        | (exfalso; omega; done)
        | exact ⟨(-3), (u A 87 (wr (A 87) 3 ((rd (A 87) 3) + 1))), F, REL_ref hR0 (by decide) (by decide), rfl, rfl, rfl, ⟨rfl, rfl, rfl, rfl, by first | exact Int.le_refl _ | (show F 3 ≤ F 3 + 1; omega), rfl, rfl, rfl, rfl, rfl, rfl⟩⟩
    · refine R_s (P := True) (f' := (17, [some (vR 12), some (vI t)], [vI 1], LAY (shA A) (shF F), 0, 0)) hc52 2 rfl trivial ?_
      refine R_retz hc52 rfl rfl (Or.inr rfl) ?_
      refine R_s (f' := (8, [some (vR 1), some (vI t), some (vI d), some (vI n)], [vI 1], LAY (shA A) (shF F), 0, 0)) hc68 0 rfl trivial ?_
      refine R_if (t := 19) hc68 rfl rfl (fun (z : 1 = 0) => absurd z (by decide)) (fun (_ : ¬ (1 = 0)) => ?_)
      refine R_s (P := True) (f' := (13, [some (vR 1), some (vI t), some (vI d), some (vI n)], [vI d, vR 1], LAY (shA A) (shF F), 0, 0)) hc68 2 rfl trivial ?_
      refine R_cv hc68 rfl rfl ?_ (fun r G h => h)
      refine R_s (P := True) (f' := (1, [some (vR 1), some (vI d)], [vI d], LAY (shA A) (shF F), 0, 0)) hc98 1 rfl trivial ?_
      refine R_if (t := 16) hc98 rfl rfl (fun (c4 : d < 0) => ?_) (fun (c4 : ¬ (d < 0)) => ?_)
      · refine R_s (P := True) (f' := (17, [some (vR 1), some (vI d)], [vI 0], LAY (shA A) (shF F), 0, 0)) hc98 1 rfl trivial ?_
        refine R_retz hc98 rfl rfl (Or.inl rfl) ?_
        refine R_s (f' := (16, [some (vR 1), some (vI t), some (vI d), some (vI n)], [vI 0], LAY (shA A) (shF F), 0, 0)) hc68 0 rfl trivial ?_
        refine R_if (t := 26) hc68 rfl rfl (fun (z : ¬ 0 = 0) => absurd z (by decide)) (fun (_ : ¬ (¬ 0 = 0)) => ?_)
        refine R_s (P := True) (f' := (22, [some (vR 1), some (vI t), some (vI d), some (vI n)], [vI (-3), vR 1], LAY (shA A) (shF F), 0, 0)) hc68 2 rfl trivial ?_
        refine R_cv hc68 rfl rfl ?_ (fun r G h => h)
        refine R_s (P := True) (f' := (3, [some (vR 1), some (vI (-3))], [vI (-2), vI (-3)], LAY (shA A) (shF F), 0, 0)) hc93 2 rfl trivial ?_
        refine R_ic (t := 23) hc93 rfl rfl (fun (z : (-2) < (-3)) => absurd z (by decide)) (fun (_ : ¬ ((-2) < (-3))) => ?_)
        refine R_s (P := True) (f' := (9, [some (vR 1), some (vI (-3))], [vI (-8), vI (-3)], LAY (shA A) (shF F), 0, 0)) hc93 2 rfl trivial ?_
        refine R_ic (t := 23) hc93 rfl rfl (fun (z : (-3) < (-8)) => absurd z (by decide)) (fun (_ : ¬ ((-3) < (-8))) => ?_)
        refine R_s (P := inI 3 ∧ (0 ≤ 3 ∧ 3 < ((A 87).length : Int)) ∧ inI ((rd (A 87) 3) + 1) ∧ (0 ≤ 3 ∧ 3 < ((A 87).length : Int)) ∧ True) (f' := (24, [some (vR 1), some (vI (-3))], [vI (-3)], LAY (u (shA A) 87 (wr (A 87) 3 ((rd (A 87) 3) + 1))) (shF F), 0, 0)) hc93 10 rfl ⟨⟨by omega, by omega⟩, ⟨by omega, by omega⟩, ⟨by omega, by omega⟩, ⟨by omega, by omega⟩, trivial⟩ ?_
        refine R_reti hc93 rfl rfl ?_
        refine R_s (f' := (25, [some (vR 1), some (vI t), some (vI d), some (vI n)], [vI (-3)], LAY (u (shA A) 87 (wr (A 87) 3 ((rd (A 87) 3) + 1))) (shF F), 0, 0)) hc68 0 rfl trivial ?_
        refine R_reti hc68 rfl rfl ?_
        first
          | (exfalso; omega; done)
          | exact ⟨(-3), (u A 87 (wr (A 87) 3 ((rd (A 87) 3) + 1))), F, REL_ref hR0 (by decide) (by decide), rfl, rfl, rfl, ⟨rfl, rfl, rfl, rfl, by first | exact Int.le_refl _ | (show F 3 ≤ F 3 + 1; omega), rfl, rfl, rfl, rfl, rfl, rfl⟩⟩
      · refine R_s (P := True) (f' := (9, [some (vR 1), some (vI d)], [vI (F 0), vI d], LAY (shA A) (shF F), 0, 0)) hc98 3 rfl trivial ?_
        refine R_ic (t := 16) hc98 rfl rfl (fun (c5 : F 0 ≤ d) => ?_) (fun (c5 : ¬ (F 0 ≤ d)) => ?_)
        · refine R_s (P := True) (f' := (17, [some (vR 1), some (vI d)], [vI 0], LAY (shA A) (shF F), 0, 0)) hc98 1 rfl trivial ?_
          refine R_retz hc98 rfl rfl (Or.inl rfl) ?_
          refine R_s (f' := (16, [some (vR 1), some (vI t), some (vI d), some (vI n)], [vI 0], LAY (shA A) (shF F), 0, 0)) hc68 0 rfl trivial ?_
          refine R_if (t := 26) hc68 rfl rfl (fun (z : ¬ 0 = 0) => absurd z (by decide)) (fun (_ : ¬ (¬ 0 = 0)) => ?_)
          refine R_s (P := True) (f' := (22, [some (vR 1), some (vI t), some (vI d), some (vI n)], [vI (-3), vR 1], LAY (shA A) (shF F), 0, 0)) hc68 2 rfl trivial ?_
          refine R_cv hc68 rfl rfl ?_ (fun r G h => h)
          refine R_s (P := True) (f' := (3, [some (vR 1), some (vI (-3))], [vI (-2), vI (-3)], LAY (shA A) (shF F), 0, 0)) hc93 2 rfl trivial ?_
          refine R_ic (t := 23) hc93 rfl rfl (fun (z : (-2) < (-3)) => absurd z (by decide)) (fun (_ : ¬ ((-2) < (-3))) => ?_)
          refine R_s (P := True) (f' := (9, [some (vR 1), some (vI (-3))], [vI (-8), vI (-3)], LAY (shA A) (shF F), 0, 0)) hc93 2 rfl trivial ?_
          refine R_ic (t := 23) hc93 rfl rfl (fun (z : (-3) < (-8)) => absurd z (by decide)) (fun (_ : ¬ ((-3) < (-8))) => ?_)
          refine R_s (P := inI 3 ∧ (0 ≤ 3 ∧ 3 < ((A 87).length : Int)) ∧ inI ((rd (A 87) 3) + 1) ∧ (0 ≤ 3 ∧ 3 < ((A 87).length : Int)) ∧ True) (f' := (24, [some (vR 1), some (vI (-3))], [vI (-3)], LAY (u (shA A) 87 (wr (A 87) 3 ((rd (A 87) 3) + 1))) (shF F), 0, 0)) hc93 10 rfl ⟨⟨by omega, by omega⟩, ⟨by omega, by omega⟩, ⟨by omega, by omega⟩, ⟨by omega, by omega⟩, trivial⟩ ?_
          refine R_reti hc93 rfl rfl ?_
          refine R_s (f' := (25, [some (vR 1), some (vI t), some (vI d), some (vI n)], [vI (-3)], LAY (u (shA A) 87 (wr (A 87) 3 ((rd (A 87) 3) + 1))) (shF F), 0, 0)) hc68 0 rfl trivial ?_
          refine R_reti hc68 rfl rfl ?_
          first
            | (exfalso; omega; done)
            | exact ⟨(-3), (u A 87 (wr (A 87) 3 ((rd (A 87) 3) + 1))), F, REL_ref hR0 (by decide) (by decide), rfl, rfl, rfl, ⟨rfl, rfl, rfl, rfl, by first | exact Int.le_refl _ | (show F 3 ≤ F 3 + 1; omega), rfl, rfl, rfl, rfl, rfl, rfl⟩⟩
        · refine R_s (P := True) (f' := (17, [some (vR 1), some (vI d)], [vI 1], LAY (shA A) (shF F), 0, 0)) hc98 2 rfl trivial ?_
          refine R_retz hc98 rfl rfl (Or.inr rfl) ?_
          refine R_s (f' := (16, [some (vR 1), some (vI t), some (vI d), some (vI n)], [vI 1], LAY (shA A) (shF F), 0, 0)) hc68 0 rfl trivial ?_
          refine R_if (t := 26) hc68 rfl rfl (fun (_ : ¬ 1 = 0) => ?_) (fun (z : ¬ (¬ 1 = 0)) => absurd (by decide) z)
          refine R_s (P := True) (f' := (28, [some (vR 1), some (vI t), some (vI d), some (vI n)], [vI 1, vI n], LAY (shA A) (shF F), 0, 0)) hc68 2 rfl trivial ?_
          refine R_ic (t := 37) hc68 rfl rfl (fun (c7 : n < 1) => ?_) (fun (c7 : ¬ (n < 1)) => ?_)
          · refine R_s (P := True) (f' := (40, [some (vR 1), some (vI t), some (vI d), some (vI n)], [vI (-7), vR 1], LAY (shA A) (shF F), 0, 0)) hc68 2 rfl trivial ?_
            refine R_cv hc68 rfl rfl ?_ (fun r G h => h)
            refine R_s (P := True) (f' := (3, [some (vR 1), some (vI (-7))], [vI (-2), vI (-7)], LAY (shA A) (shF F), 0, 0)) hc93 2 rfl trivial ?_
            refine R_ic (t := 23) hc93 rfl rfl (fun (z : (-2) < (-7)) => absurd z (by decide)) (fun (_ : ¬ ((-2) < (-7))) => ?_)
            refine R_s (P := True) (f' := (9, [some (vR 1), some (vI (-7))], [vI (-8), vI (-7)], LAY (shA A) (shF F), 0, 0)) hc93 2 rfl trivial ?_
            refine R_ic (t := 23) hc93 rfl rfl (fun (z : (-7) < (-8)) => absurd z (by decide)) (fun (_ : ¬ ((-7) < (-8))) => ?_)
            refine R_s (P := inI 7 ∧ (0 ≤ 7 ∧ 7 < ((A 87).length : Int)) ∧ inI ((rd (A 87) 7) + 1) ∧ (0 ≤ 7 ∧ 7 < ((A 87).length : Int)) ∧ True) (f' := (24, [some (vR 1), some (vI (-7))], [vI (-7)], LAY (u (shA A) 87 (wr (A 87) 7 ((rd (A 87) 7) + 1))) (shF F), 0, 0)) hc93 10 rfl ⟨⟨by omega, by omega⟩, ⟨by omega, by omega⟩, ⟨by omega, by omega⟩, ⟨by omega, by omega⟩, trivial⟩ ?_
            refine R_reti hc93 rfl rfl ?_
            refine R_s (f' := (43, [some (vR 1), some (vI t), some (vI d), some (vI n)], [vI (-7)], LAY (u (shA A) 87 (wr (A 87) 7 ((rd (A 87) 7) + 1))) (shF F), 0, 0)) hc68 0 rfl trivial ?_
            refine R_reti hc68 rfl rfl ?_
            first
              | (exfalso; omega; done)
              | exact ⟨(-7), (u A 87 (wr (A 87) 7 ((rd (A 87) 7) + 1))), F, REL_ref hR0 (by decide) (by decide), rfl, rfl, rfl, ⟨rfl, rfl, rfl, rfl, by first | exact Int.le_refl _ | (show F 3 ≤ F 3 + 1; omega), rfl, rfl, rfl, rfl, rfl, rfl⟩⟩
          · refine R_s (P := True) (f' := (34, [some (vR 1), some (vI t), some (vI d), some (vI n)], [vI 12, vI n], LAY (shA A) (shF F), 0, 0)) hc68 2 rfl trivial ?_
            refine R_ic (t := 44) hc68 rfl rfl (fun (c10 : n ≤ 12) => ?_) (fun (c10 : ¬ (n ≤ 12)) => ?_)
            · refine R_s (P := True) (f' := (50, [some (vR 1), some (vI t), some (vI d), some (vI n)], [vI t, vR 12, vI n], LAY (shA A) (shF F), 0, 0)) hc68 4 rfl trivial ?_
              refine R_cv hc68 rfl rfl ?_ (fun r G h => h)
              refine R_s (P := True) (f' := (8, [some (vR 12), some (vI t), some (vI 12), some (vI 0)], [vI 6, vI 0], LAY (shA A) (shF F), 0, 0)) hc54 6 rfl trivial ?_
              refine R_ic (t := 31) hc54 rfl rfl (fun (z : 6 ≤ 0) => absurd z (by decide)) (fun (_ : ¬ (6 ≤ 0)) => ?_)
              refine R_s (P := inI (t * 6) ∧ inI ((t * 6) + 0) ∧ (0 ≤ (t * 6) + 0 ∧ (t * 6) + 0 < ((A 16).length : Int)) ∧ inI (12 - (rd (A 16) ((t * 6) + 0))) ∧ inI 1 ∧ True) (f' := (8, [some (vR 12), some (vI t), some (vI (12 - (rd (A 16) ((t * 6) + 0)))), some (vI 1)], [vI 6, vI 1], LAY (shA A) (shF F), 0, 0)) hc54 15 rfl ⟨⟨by omega, by omega⟩, ⟨by omega, by omega⟩, ⟨by omega, by omega⟩, ⟨by omega, by omega⟩, ⟨by omega, by omega⟩, trivial⟩ ?_
              refine R_ic (t := 31) hc54 rfl rfl (fun (z : 6 ≤ 1) => absurd z (by decide)) (fun (_ : ¬ (6 ≤ 1)) => ?_)
              refine R_s (P := inI (t * 6) ∧ inI ((t * 6) + 1) ∧ (0 ≤ (t * 6) + 1 ∧ (t * 6) + 1 < ((A 16).length : Int)) ∧ inI ((12 - (rd (A 16) ((t * 6) + 0))) - (rd (A 16) ((t * 6) + 1))) ∧ inI 2 ∧ True) (f' := (8, [some (vR 12), some (vI t), some (vI ((12 - (rd (A 16) ((t * 6) + 0))) - (rd (A 16) ((t * 6) + 1)))), some (vI 2)], [vI 6, vI 2], LAY (shA A) (shF F), 0, 0)) hc54 15 rfl ⟨⟨by omega, by omega⟩, ⟨by omega, by omega⟩, ⟨by omega, by omega⟩, ⟨by omega, by omega⟩, ⟨by omega, by omega⟩, trivial⟩ ?_
              refine R_ic (t := 31) hc54 rfl rfl (fun (z : 6 ≤ 2) => absurd z (by decide)) (fun (_ : ¬ (6 ≤ 2)) => ?_)
              refine R_s (P := inI (t * 6) ∧ inI ((t * 6) + 2) ∧ (0 ≤ (t * 6) + 2 ∧ (t * 6) + 2 < ((A 16).length : Int)) ∧ inI (((12 - (rd (A 16) ((t * 6) + 0))) - (rd (A 16) ((t * 6) + 1))) - (rd (A 16) ((t * 6) + 2))) ∧ inI 3 ∧ True) (f' := (8, [some (vR 12), some (vI t), some (vI (((12 - (rd (A 16) ((t * 6) + 0))) - (rd (A 16) ((t * 6) + 1))) - (rd (A 16) ((t * 6) + 2)))), some (vI 3)], [vI 6, vI 3], LAY (shA A) (shF F), 0, 0)) hc54 15 rfl ⟨⟨by omega, by omega⟩, ⟨by omega, by omega⟩, ⟨by omega, by omega⟩, ⟨by omega, by omega⟩, ⟨by omega, by omega⟩, trivial⟩ ?_
              refine R_ic (t := 31) hc54 rfl rfl (fun (z : 6 ≤ 3) => absurd z (by decide)) (fun (_ : ¬ (6 ≤ 3)) => ?_)
              refine R_s (P := inI (t * 6) ∧ inI ((t * 6) + 3) ∧ (0 ≤ (t * 6) + 3 ∧ (t * 6) + 3 < ((A 16).length : Int)) ∧ inI ((((12 - (rd (A 16) ((t * 6) + 0))) - (rd (A 16) ((t * 6) + 1))) - (rd (A 16) ((t * 6) + 2))) - (rd (A 16) ((t * 6) + 3))) ∧ inI 4 ∧ True) (f' := (8, [some (vR 12), some (vI t), some (vI ((((12 - (rd (A 16) ((t * 6) + 0))) - (rd (A 16) ((t * 6) + 1))) - (rd (A 16) ((t * 6) + 2))) - (rd (A 16) ((t * 6) + 3)))), some (vI 4)], [vI 6, vI 4], LAY (shA A) (shF F), 0, 0)) hc54 15 rfl ⟨⟨by omega, by omega⟩, ⟨by omega, by omega⟩, ⟨by omega, by omega⟩, ⟨by omega, by omega⟩, ⟨by omega, by omega⟩, trivial⟩ ?_
              refine R_ic (t := 31) hc54 rfl rfl (fun (z : 6 ≤ 4) => absurd z (by decide)) (fun (_ : ¬ (6 ≤ 4)) => ?_)
              refine R_s (P := inI (t * 6) ∧ inI ((t * 6) + 4) ∧ (0 ≤ (t * 6) + 4 ∧ (t * 6) + 4 < ((A 16).length : Int)) ∧ inI (((((12 - (rd (A 16) ((t * 6) + 0))) - (rd (A 16) ((t * 6) + 1))) - (rd (A 16) ((t * 6) + 2))) - (rd (A 16) ((t * 6) + 3))) - (rd (A 16) ((t * 6) + 4))) ∧ inI 5 ∧ True) (f' := (8, [some (vR 12), some (vI t), some (vI (((((12 - (rd (A 16) ((t * 6) + 0))) - (rd (A 16) ((t * 6) + 1))) - (rd (A 16) ((t * 6) + 2))) - (rd (A 16) ((t * 6) + 3))) - (rd (A 16) ((t * 6) + 4)))), some (vI 5)], [vI 6, vI 5], LAY (shA A) (shF F), 0, 0)) hc54 15 rfl ⟨⟨by omega, by omega⟩, ⟨by omega, by omega⟩, ⟨by omega, by omega⟩, ⟨by omega, by omega⟩, ⟨by omega, by omega⟩, trivial⟩ ?_
              refine R_ic (t := 31) hc54 rfl rfl (fun (z : 6 ≤ 5) => absurd z (by decide)) (fun (_ : ¬ (6 ≤ 5)) => ?_)
              refine R_s (P := inI (t * 6) ∧ inI ((t * 6) + 5) ∧ (0 ≤ (t * 6) + 5 ∧ (t * 6) + 5 < ((A 16).length : Int)) ∧ inI ((((((12 - (rd (A 16) ((t * 6) + 0))) - (rd (A 16) ((t * 6) + 1))) - (rd (A 16) ((t * 6) + 2))) - (rd (A 16) ((t * 6) + 3))) - (rd (A 16) ((t * 6) + 4))) - (rd (A 16) ((t * 6) + 5))) ∧ inI 6 ∧ True) (f' := (8, [some (vR 12), some (vI t), some (vI ((((((12 - (rd (A 16) ((t * 6) + 0))) - (rd (A 16) ((t * 6) + 1))) - (rd (A 16) ((t * 6) + 2))) - (rd (A 16) ((t * 6) + 3))) - (rd (A 16) ((t * 6) + 4))) - (rd (A 16) ((t * 6) + 5)))), some (vI 6)], [vI 6, vI 6], LAY (shA A) (shF F), 0, 0)) hc54 15 rfl ⟨⟨by omega, by omega⟩, ⟨by omega, by omega⟩, ⟨by omega, by omega⟩, ⟨by omega, by omega⟩, ⟨by omega, by omega⟩, trivial⟩ ?_
              refine R_ic (t := 31) hc54 rfl rfl (fun (_ : 6 ≤ 6) => ?_) (fun (z : ¬ (6 ≤ 6)) => absurd (by decide) z)
              refine R_s (P := True) (f' := (32, [some (vR 12), some (vI t), some (vI ((((((12 - (rd (A 16) ((t * 6) + 0))) - (rd (A 16) ((t * 6) + 1))) - (rd (A 16) ((t * 6) + 2))) - (rd (A 16) ((t * 6) + 3))) - (rd (A 16) ((t * 6) + 4))) - (rd (A 16) ((t * 6) + 5)))), some (vI 6)], [vI ((((((12 - (rd (A 16) ((t * 6) + 0))) - (rd (A 16) ((t * 6) + 1))) - (rd (A 16) ((t * 6) + 2))) - (rd (A 16) ((t * 6) + 3))) - (rd (A 16) ((t * 6) + 4))) - (rd (A 16) ((t * 6) + 5)))], LAY (shA A) (shF F), 0, 0)) hc54 1 rfl trivial ?_
              refine R_reti hc54 rfl rfl ?_
              refine R_s (f' := (53, [some (vR 1), some (vI t), some (vI d), some (vI n)], [vI ((((((12 - (rd (A 16) ((t * 6) + 0))) - (rd (A 16) ((t * 6) + 1))) - (rd (A 16) ((t * 6) + 2))) - (rd (A 16) ((t * 6) + 3))) - (rd (A 16) ((t * 6) + 4))) - (rd (A 16) ((t * 6) + 5))), vI n], LAY (shA A) (shF F), 0, 0)) hc68 0 rfl trivial ?_
              refine R_ic (t := 63) hc68 rfl rfl (fun (c18 : n ≤ (((((12 - (rd (A 16) ((t * 6) + 0))) - (rd (A 16) ((t * 6) + 1))) - (rd (A 16) ((t * 6) + 2))) - (rd (A 16) ((t * 6) + 3))) - (rd (A 16) ((t * 6) + 4))) - (rd (A 16) ((t * 6) + 5))) => ?_) (fun (c18 : ¬ (n ≤ (((((12 - (rd (A 16) ((t * 6) + 0))) - (rd (A 16) ((t * 6) + 1))) - (rd (A 16) ((t * 6) + 2))) - (rd (A 16) ((t * 6) + 3))) - (rd (A 16) ((t * 6) + 4))) - (rd (A 16) ((t * 6) + 5)))) => ?_)
              · refine R_s (P := True) (f' := (70, [some (vR 1), some (vI t), some (vI d), some (vI n)], [vI n, vI d, vI t, vR 12], LAY (shA A) (shF F), 0, 0)) hc68 5 rfl trivial ?_
                refine R_cv hc68 rfl rfl ?_ (fun r G h => h)
                refine R_s (P := inI (t * 6) ∧ inI ((t * 6) + d) ∧ (0 ≤ (t * 6) + d ∧ (t * 6) + d < ((A 16).length : Int)) ∧ inI ((rd (A 16) ((t * 6) + d)) + n) ∧ (0 ≤ (t * 6) + d ∧ (t * 6) + d < ((A 16).length : Int)) ∧ (0 ≤ (t * 6) + d ∧ (t * 6) + d < ((wr (A 16) ((t * 6) + d) ((rd (A 16) ((t * 6) + d)) + n)).length : Int)) ∧ True) (f' := (26, [some (vR 12), some (vI t), some (vI d), some (vI n), some (vI ((t * 6) + d))], [vI (rd (wr (A 16) ((t * 6) + d) ((rd (A 16) ((t * 6) + d)) + n)) ((t * 6) + d))], LAY (u (shA A) 16 (wr (A 16) ((t * 6) + d) ((rd (A 16) ((t * 6) + d)) + n))) (shF F), 0, 0)) hc55 18 rfl ⟨⟨by omega, by omega⟩, ⟨by omega, by omega⟩, ⟨by omega, by omega⟩, ⟨by omega, by omega⟩, ⟨by omega, by omega⟩, ⟨by omega, by simp only [wr_len]; omega⟩, trivial⟩ ?_
                refine R_reti hc55 rfl rfl ?_
                refine R_s (f' := (73, [some (vR 1), some (vI t), some (vI d), some (vI n)], [vI (rd (wr (A 16) ((t * 6) + d) ((rd (A 16) ((t * 6) + d)) + n)) ((t * 6) + d))], LAY (u (shA A) 16 (wr (A 16) ((t * 6) + d) ((rd (A 16) ((t * 6) + d)) + n))) (shF F), 0, 0)) hc68 0 rfl trivial ?_
                refine R_reti hc68 rfl rfl ?_
                first
                  | (exfalso; omega; done)
                  | exact ⟨rd (wr (A 16) ((t * 6) + d) ((rd (A 16) ((t * 6) + d)) + n)) ((t * 6) + d), (u A 16 (wr (A 16) ((t * 6) + d) ((rd (A 16) ((t * 6) + d)) + n))), F, (REL_part hR0 (by omega) (by omega) (by unfold sum6; omega)), rfl, rfl, rfl, ⟨rfl, rfl, rfl, rfl, by first | exact Int.le_refl _ | (show F 3 ≤ F 3 + 1; omega), rfl, rfl, rfl, rfl, rfl, rfl⟩⟩
              · refine R_s (P := True) (f' := (59, [some (vR 1), some (vI t), some (vI d), some (vI n)], [vI (-8), vR 1], LAY (shA A) (shF F), 0, 0)) hc68 2 rfl trivial ?_
                refine R_cv hc68 rfl rfl ?_ (fun r G h => h)
                refine R_s (P := True) (f' := (3, [some (vR 1), some (vI (-8))], [vI (-2), vI (-8)], LAY (shA A) (shF F), 0, 0)) hc93 2 rfl trivial ?_
                refine R_ic (t := 23) hc93 rfl rfl (fun (z : (-2) < (-8)) => absurd z (by decide)) (fun (_ : ¬ ((-2) < (-8))) => ?_)
                refine R_s (P := True) (f' := (9, [some (vR 1), some (vI (-8))], [vI (-8), vI (-8)], LAY (shA A) (shF F), 0, 0)) hc93 2 rfl trivial ?_
                refine R_ic (t := 23) hc93 rfl rfl (fun (z : (-8) < (-8)) => absurd z (by decide)) (fun (_ : ¬ ((-8) < (-8))) => ?_)
                refine R_s (P := inI 8 ∧ (0 ≤ 8 ∧ 8 < ((A 87).length : Int)) ∧ inI ((rd (A 87) 8) + 1) ∧ (0 ≤ 8 ∧ 8 < ((A 87).length : Int)) ∧ True) (f' := (24, [some (vR 1), some (vI (-8))], [vI (-8)], LAY (u (shA A) 87 (wr (A 87) 8 ((rd (A 87) 8) + 1))) (shF F), 0, 0)) hc93 10 rfl ⟨⟨by omega, by omega⟩, ⟨by omega, by omega⟩, ⟨by omega, by omega⟩, ⟨by omega, by omega⟩, trivial⟩ ?_
                refine R_reti hc93 rfl rfl ?_
                refine R_s (f' := (62, [some (vR 1), some (vI t), some (vI d), some (vI n)], [vI (-8)], LAY (u (shA A) 87 (wr (A 87) 8 ((rd (A 87) 8) + 1))) (shF F), 0, 0)) hc68 0 rfl trivial ?_
                refine R_reti hc68 rfl rfl ?_
                first
                  | (exfalso; omega; done)
                  | exact ⟨(-8), (u A 87 (wr (A 87) 8 ((rd (A 87) 8) + 1))), F, REL_ref hR0 (by decide) (by decide), rfl, rfl, rfl, ⟨rfl, rfl, rfl, rfl, by first | exact Int.le_refl _ | (show F 3 ≤ F 3 + 1; omega), rfl, rfl, rfl, rfl, rfl, rfl⟩⟩
            · refine R_s (P := True) (f' := (40, [some (vR 1), some (vI t), some (vI d), some (vI n)], [vI (-7), vR 1], LAY (shA A) (shF F), 0, 0)) hc68 2 rfl trivial ?_
              refine R_cv hc68 rfl rfl ?_ (fun r G h => h)
              refine R_s (P := True) (f' := (3, [some (vR 1), some (vI (-7))], [vI (-2), vI (-7)], LAY (shA A) (shF F), 0, 0)) hc93 2 rfl trivial ?_
              refine R_ic (t := 23) hc93 rfl rfl (fun (z : (-2) < (-7)) => absurd z (by decide)) (fun (_ : ¬ ((-2) < (-7))) => ?_)
              refine R_s (P := True) (f' := (9, [some (vR 1), some (vI (-7))], [vI (-8), vI (-7)], LAY (shA A) (shF F), 0, 0)) hc93 2 rfl trivial ?_
              refine R_ic (t := 23) hc93 rfl rfl (fun (z : (-7) < (-8)) => absurd z (by decide)) (fun (_ : ¬ ((-7) < (-8))) => ?_)
              refine R_s (P := inI 7 ∧ (0 ≤ 7 ∧ 7 < ((A 87).length : Int)) ∧ inI ((rd (A 87) 7) + 1) ∧ (0 ≤ 7 ∧ 7 < ((A 87).length : Int)) ∧ True) (f' := (24, [some (vR 1), some (vI (-7))], [vI (-7)], LAY (u (shA A) 87 (wr (A 87) 7 ((rd (A 87) 7) + 1))) (shF F), 0, 0)) hc93 10 rfl ⟨⟨by omega, by omega⟩, ⟨by omega, by omega⟩, ⟨by omega, by omega⟩, ⟨by omega, by omega⟩, trivial⟩ ?_
              refine R_reti hc93 rfl rfl ?_
              refine R_s (f' := (43, [some (vR 1), some (vI t), some (vI d), some (vI n)], [vI (-7)], LAY (u (shA A) 87 (wr (A 87) 7 ((rd (A 87) 7) + 1))) (shF F), 0, 0)) hc68 0 rfl trivial ?_
              refine R_reti hc68 rfl rfl ?_
              first
                | (exfalso; omega; done)
                | exact ⟨(-7), (u A 87 (wr (A 87) 7 ((rd (A 87) 7) + 1))), F, REL_ref hR0 (by decide) (by decide), rfl, rfl, rfl, ⟨rfl, rfl, rfl, rfl, by first | exact Int.le_refl _ | (show F 3 ≤ F 3 + 1; omega), rfl, rfl, rfl, rfl, rfl, rfl⟩⟩

theorem op_feed {c : Int} {A : Nat → List Int} {F : Nat → Int} (hR : REL c A F) (hc : c < 1000000) (b n : Int) (i_b : inI b) (i_n : inI n) : R 70 (0, L0 70 [vR 1, vI b, vI n], [], LAY (shA A) (shF F), 0, 0) (fun r G => ∃ (x : Int) (A' : Nat → List Int) (F' : Nat → Int), REL (c + 1) A' F' ∧ r = some (vI x) ∧ G = LAY (shA A') (shF F') ∧ A' 0 = A 0 ∧ KP A F A' F' ∧ (n = 1 → 0 ≤ b → b ≤ 255 → F 5 < 120 → F' 5 = F 5 + 1 ∧ A' 18 = wr (A 18) (F 5) b)) := by
  have hR0 := hR
  obtain ⟨hL, hPE, hTH, hTP, hDE, hLE, hNO, hAC, hRO, hRE⟩ := hR
  have j_b := i_b
  unfold inI at j_b
  have j_n := i_n
  unfold inI at j_n
  have h87 : (A 87).length = 9 := hL 87 (by decide)
  have h3 : (A 3).length = 30 := hL 3 (by decide)
  have h4 : (A 4).length = 30 := hL 4 (by decide)
  have h5 : (A 5).length = 30 := hL 5 (by decide)
  have h6 : (A 6).length = 30 := hL 6 (by decide)
  have h7 : (A 7).length = 30 := hL 7 (by decide)
  have h94 : (A 94).length = 30 := hL 94 (by decide)
  have h13 : (A 13).length = 10 := hL 13 (by decide)
  have h14 : (A 14).length = 10 := hL 14 (by decide)
  have h15 : (A 15).length = 10 := hL 15 (by decide)
  have h16 : (A 16).length = 60 := hL 16 (by decide)
  have h80 : (A 80).length = 30 := hL 80 (by decide)
  have h81 : (A 81).length = 30 := hL 81 (by decide)
  have h82 : (A 82).length = 30 := hL 82 (by decide)
  have h83 : (A 83).length = 30 := hL 83 (by decide)
  have h84 : (A 84).length = 30 := hL 84 (by decide)
  have h85 : (A 85).length = 8 := hL 85 (by decide)
  have h101 : (A 101).length = 38 := hL 101 (by decide)
  have h102 : (A 102).length = 90 := hL 102 (by decide)
  have h18 : (A 18).length = 120 := hL 18 (by decide)
  have r2 := REFU_at hRE (k := 2) (by decide) (by decide) hc
  have r3 := REFU_at hRE (k := 3) (by decide) (by decide) hc
  have r4 := REFU_at hRE (k := 4) (by decide) (by decide) hc
  have r5 := REFU_at hRE (k := 5) (by decide) (by decide) hc
  have r6 := REFU_at hRE (k := 6) (by decide) (by decide) hc
  have r7 := REFU_at hRE (k := 7) (by decide) (by decide) hc
  have r8 := REFU_at hRE (k := 8) (by decide) (by decide) hc
  obtain ⟨t1, t2, t3, t4, t5, t6⟩ := hTH
  obtain ⟨p1, p2, p3, p4, p5, p6⟩ := hPE
  refine R_s (P := True) (f' := (1, [some (vR 1), some (vI b), some (vI n)], [vI n], LAY (shA A) (shF F), 0, 0)) hc70 1 rfl trivial ?_
  refine R_if (t := 11) hc70 rfl rfl (fun (c1 : 0 ≤ n) => ?_) (fun (c1 : ¬ (0 ≤ n)) => ?_)
  · refine R_s (P := True) (f' := (13, [some (vR 1), some (vI b), some (vI n)], [vI 4, vI n], LAY (shA A) (shF F), 0, 0)) hc70 2 rfl trivial ?_
    refine R_ic (t := 23) hc70 rfl rfl (fun (c2 : n ≤ 4) => ?_) (fun (c2 : ¬ (n ≤ 4)) => ?_)
    · refine R_s (P := inI (120 - (F 5)) ∧ True) (f' := (34, [some (vR 1), some (vI b), some (vI n)], [vI (120 - (F 5)), vI n], LAY (shA A) (shF F), 0, 0)) hc70 6 rfl ⟨⟨by omega, by omega⟩, trivial⟩ ?_
      refine R_ic (t := 44) hc70 rfl rfl (fun (c3 : n ≤ 120 - (F 5)) => ?_) (fun (c3 : ¬ (n ≤ 120 - (F 5))) => ?_)
      · refine R_s (P := True) (f' := (50, [some (vR 1), some (vI b), some (vI n)], [vI n, vI b, vR 17], LAY (shA A) (shF F), 0, 0)) hc70 4 rfl trivial ?_
        refine R_cv hc70 rfl rfl ?_ (fun r G h => h)
        refine R_s (P := inI (n - 1) ∧ True) (f' := (5, [some (vR 17), some (vI b), some (vI n), some (vI (n - 1))], [vI (n - 1)], LAY (shA A) (shF F), 0, 0)) hc37 5 rfl ⟨⟨by omega, by omega⟩, trivial⟩ ?_
        refine R_if (t := 52) hc37 rfl rfl (fun (c4 : n - 1 < 0) => ?_) (fun (c4 : ¬ (n - 1 < 0)) => ?_)
        · refine R_retv hc37 rfl rfl ?_
          refine R_s (f' := (53, [some (vR 1), some (vI b), some (vI n)], [], LAY (shA A) (shF F), 0, 0)) hc70 0 rfl trivial ?_
          refine R_s (P := True) (f' := (60, [some (vR 1), some (vI b), some (vI n)], [vI (F 5)], LAY (shA A) (shF F), 0, 0)) hc70 3 rfl trivial ?_
          refine R_reti hc70 rfl rfl ?_
          first
            | (exfalso; omega; done)
            | exact ⟨F 5, A, F, REL_c hR0, rfl, rfl, rfl, ⟨⟨rfl, rfl, rfl, rfl, by first | exact Int.le_refl _ | (show F 3 ≤ F 3 + 1; omega), rfl, rfl, rfl, rfl, rfl, rfl⟩, fun h1 h2 h3 h4 => by exfalso; omega⟩⟩
        · refine R_s (P := True) (f' := (14, [some (vR 17), some (vI b), some (vI n), some (vI (n - 1))], [vI 120, vI (F 5)], LAY (shA A) (shF F), 0, 0)) hc37 3 rfl trivial ?_
          refine R_ic (t := 52) hc37 rfl rfl (fun (c5 : 120 ≤ F 5) => ?_) (fun (c5 : ¬ (120 ≤ F 5)) => ?_)
          · refine R_retv hc37 rfl rfl ?_
            refine R_s (f' := (53, [some (vR 1), some (vI b), some (vI n)], [], LAY (shA A) (shF F), 0, 0)) hc70 0 rfl trivial ?_
            refine R_s (P := True) (f' := (60, [some (vR 1), some (vI b), some (vI n)], [vI (F 5)], LAY (shA A) (shF F), 0, 0)) hc70 3 rfl trivial ?_
            refine R_reti hc70 rfl rfl ?_
            first
              | (exfalso; omega; done)
              | exact ⟨F 5, A, F, REL_c hR0, rfl, rfl, rfl, ⟨⟨rfl, rfl, rfl, rfl, by first | exact Int.le_refl _ | (show F 3 ≤ F 3 + 1; omega), rfl, rfl, rfl, rfl, rfl, rfl⟩, fun h1 h2 h3 h4 => by exfalso; omega⟩⟩
          · refine R_s (P := inI (8 * (n - 1)) ∧ (0 ≤ 8 * (n - 1) ∧ 8 * (n - 1) < 32) ∧ (255 = 1 ∨ 255 = 63 ∨ 255 = 255) ∧ (0 ≤ F 5 ∧ F 5 < ((A 18).length : Int)) ∧ inI ((F 5) + 1) ∧ inI (n - 1 + (-1)) ∧ True) (f' := (5, [some (vR 17), some (vI b), some (vI n), some (vI (n - 1 + (-1)))], [vI (n - 1 + (-1))], LAY (u (shA A) 18 (wr (A 18) (F 5) ((b / 2 ^ (8 * (n - 1) : Int).toNat) % (255 + 1)))) (u (shF F) 5 ((F 5) + 1)), 0, 0)) hc37 21 rfl ⟨⟨by omega, by omega⟩, ⟨by omega, by omega⟩, (by decide), ⟨by omega, by omega⟩, ⟨by omega, by omega⟩, ⟨by omega, by omega⟩, trivial⟩ ?_
            refine R_if (t := 52) hc37 rfl rfl (fun (c6 : n - 1 + (-1) < 0) => ?_) (fun (c6 : ¬ (n - 1 + (-1) < 0)) => ?_)
            · refine R_retv hc37 rfl rfl ?_
              refine R_s (f' := (53, [some (vR 1), some (vI b), some (vI n)], [], LAY (u (shA A) 18 (wr (A 18) (F 5) ((b / 2 ^ (8 * (n - 1) : Int).toNat) % (255 + 1)))) (u (shF F) 5 ((F 5) + 1)), 0, 0)) hc70 0 rfl trivial ?_
              refine R_s (P := True) (f' := (60, [some (vR 1), some (vI b), some (vI n)], [vI ((F 5) + 1)], LAY (u (shA A) 18 (wr (A 18) (F 5) ((b / 2 ^ (8 * (n - 1) : Int).toNat) % (255 + 1)))) (u (shF F) 5 ((F 5) + 1)), 0, 0)) hc70 3 rfl trivial ?_
              refine R_reti hc70 rfl rfl ?_
              first
                | (exfalso; omega; done)
                | exact ⟨(F 5) + 1, (u A 18 (wr (A 18) (F 5) ((b / 2 ^ (8 * (n - 1) : Int).toNat) % (255 + 1)))), (u F 5 ((F 5) + 1)), (REL_tape hR0 (by simp only [wr_len]) (by omega)), rfl, rfl, rfl, ⟨⟨rfl, rfl, rfl, rfl, by first | exact Int.le_refl _ | (show F 3 ≤ F 3 + 1; omega), rfl, rfl, rfl, rfl, rfl, rfl⟩, fun h1 h2 h3 h4 => ⟨by first | rfl | (exfalso; omega), by first | (exfalso; omega; done) | (subst h1; have e9 : b / 2 ^ ((8 * ((1 : Int) - 1) : Int).toNat) % (255 + 1) = b := (by rw [show (2 : Int) ^ ((8 * ((1 : Int) - 1) : Int).toNat) = 1 from rfl]; omega); show wr (A 18) (F 5) (b / 2 ^ ((8 * ((1 : Int) - 1) : Int).toNat) % (255 + 1)) = _; rw [e9])⟩⟩⟩
            · refine R_s (P := True) (f' := (14, [some (vR 17), some (vI b), some (vI n), some (vI (n - 1 + (-1)))], [vI 120, vI ((F 5) + 1)], LAY (u (shA A) 18 (wr (A 18) (F 5) ((b / 2 ^ (8 * (n - 1) : Int).toNat) % (255 + 1)))) (u (shF F) 5 ((F 5) + 1)), 0, 0)) hc37 3 rfl trivial ?_
              refine R_ic (t := 52) hc37 rfl rfl (fun (c7 : 120 ≤ (F 5) + 1) => ?_) (fun (c7 : ¬ (120 ≤ (F 5) + 1)) => ?_)
              · refine R_retv hc37 rfl rfl ?_
                refine R_s (f' := (53, [some (vR 1), some (vI b), some (vI n)], [], LAY (u (shA A) 18 (wr (A 18) (F 5) ((b / 2 ^ (8 * (n - 1) : Int).toNat) % (255 + 1)))) (u (shF F) 5 ((F 5) + 1)), 0, 0)) hc70 0 rfl trivial ?_
                refine R_s (P := True) (f' := (60, [some (vR 1), some (vI b), some (vI n)], [vI ((F 5) + 1)], LAY (u (shA A) 18 (wr (A 18) (F 5) ((b / 2 ^ (8 * (n - 1) : Int).toNat) % (255 + 1)))) (u (shF F) 5 ((F 5) + 1)), 0, 0)) hc70 3 rfl trivial ?_
                refine R_reti hc70 rfl rfl ?_
                first
                  | (exfalso; omega; done)
                  | exact ⟨(F 5) + 1, (u A 18 (wr (A 18) (F 5) ((b / 2 ^ (8 * (n - 1) : Int).toNat) % (255 + 1)))), (u F 5 ((F 5) + 1)), (REL_tape hR0 (by simp only [wr_len]) (by omega)), rfl, rfl, rfl, ⟨⟨rfl, rfl, rfl, rfl, by first | exact Int.le_refl _ | (show F 3 ≤ F 3 + 1; omega), rfl, rfl, rfl, rfl, rfl, rfl⟩, fun h1 h2 h3 h4 => ⟨by first | rfl | (exfalso; omega), by first | (exfalso; omega; done) | (subst h1; have e9 : b / 2 ^ ((8 * ((1 : Int) - 1) : Int).toNat) % (255 + 1) = b := (by rw [show (2 : Int) ^ ((8 * ((1 : Int) - 1) : Int).toNat) = 1 from rfl]; omega); show wr (A 18) (F 5) (b / 2 ^ ((8 * ((1 : Int) - 1) : Int).toNat) % (255 + 1)) = _; rw [e9])⟩⟩⟩
              · refine R_s (P := inI (8 * (n - 1 + (-1))) ∧ (0 ≤ 8 * (n - 1 + (-1)) ∧ 8 * (n - 1 + (-1)) < 32) ∧ (255 = 1 ∨ 255 = 63 ∨ 255 = 255) ∧ (0 ≤ (F 5) + 1 ∧ (F 5) + 1 < ((wr (A 18) (F 5) ((b / 2 ^ (8 * (n - 1) : Int).toNat) % (255 + 1))).length : Int)) ∧ inI (((F 5) + 1) + 1) ∧ inI (n - 1 + (-1) + (-1)) ∧ True) (f' := (5, [some (vR 17), some (vI b), some (vI n), some (vI (n - 1 + (-1) + (-1)))], [vI (n - 1 + (-1) + (-1))], LAY (u (shA A) 18 (wr (wr (A 18) (F 5) ((b / 2 ^ (8 * (n - 1) : Int).toNat) % (255 + 1))) ((F 5) + 1) ((b / 2 ^ (8 * (n - 1 + (-1)) : Int).toNat) % (255 + 1)))) (u (shF F) 5 (((F 5) + 1) + 1)), 0, 0)) hc37 21 rfl ⟨⟨by omega, by omega⟩, ⟨by omega, by omega⟩, (by decide), ⟨by omega, by simp only [wr_len]; omega⟩, ⟨by omega, by omega⟩, ⟨by omega, by omega⟩, trivial⟩ ?_
                refine R_if (t := 52) hc37 rfl rfl (fun (c8 : n - 1 + (-1) + (-1) < 0) => ?_) (fun (c8 : ¬ (n - 1 + (-1) + (-1) < 0)) => ?_)
                · refine R_retv hc37 rfl rfl ?_
                  refine R_s (f' := (53, [some (vR 1), some (vI b), some (vI n)], [], LAY (u (shA A) 18 (wr (wr (A 18) (F 5) ((b / 2 ^ (8 * (n - 1) : Int).toNat) % (255 + 1))) ((F 5) + 1) ((b / 2 ^ (8 * (n - 1 + (-1)) : Int).toNat) % (255 + 1)))) (u (shF F) 5 (((F 5) + 1) + 1)), 0, 0)) hc70 0 rfl trivial ?_
                  refine R_s (P := True) (f' := (60, [some (vR 1), some (vI b), some (vI n)], [vI (((F 5) + 1) + 1)], LAY (u (shA A) 18 (wr (wr (A 18) (F 5) ((b / 2 ^ (8 * (n - 1) : Int).toNat) % (255 + 1))) ((F 5) + 1) ((b / 2 ^ (8 * (n - 1 + (-1)) : Int).toNat) % (255 + 1)))) (u (shF F) 5 (((F 5) + 1) + 1)), 0, 0)) hc70 3 rfl trivial ?_
                  refine R_reti hc70 rfl rfl ?_
                  first
                    | (exfalso; omega; done)
                    | exact ⟨((F 5) + 1) + 1, (u A 18 (wr (wr (A 18) (F 5) ((b / 2 ^ (8 * (n - 1) : Int).toNat) % (255 + 1))) ((F 5) + 1) ((b / 2 ^ (8 * (n - 1 + (-1)) : Int).toNat) % (255 + 1)))), (u F 5 (((F 5) + 1) + 1)), (REL_tape hR0 (by simp only [wr_len]) (by omega)), rfl, rfl, rfl, ⟨⟨rfl, rfl, rfl, rfl, by first | exact Int.le_refl _ | (show F 3 ≤ F 3 + 1; omega), rfl, rfl, rfl, rfl, rfl, rfl⟩, fun h1 h2 h3 h4 => by exfalso; omega⟩⟩
                · refine R_s (P := True) (f' := (14, [some (vR 17), some (vI b), some (vI n), some (vI (n - 1 + (-1) + (-1)))], [vI 120, vI (((F 5) + 1) + 1)], LAY (u (shA A) 18 (wr (wr (A 18) (F 5) ((b / 2 ^ (8 * (n - 1) : Int).toNat) % (255 + 1))) ((F 5) + 1) ((b / 2 ^ (8 * (n - 1 + (-1)) : Int).toNat) % (255 + 1)))) (u (shF F) 5 (((F 5) + 1) + 1)), 0, 0)) hc37 3 rfl trivial ?_
                  refine R_ic (t := 52) hc37 rfl rfl (fun (c9 : 120 ≤ ((F 5) + 1) + 1) => ?_) (fun (c9 : ¬ (120 ≤ ((F 5) + 1) + 1)) => ?_)
                  · refine R_retv hc37 rfl rfl ?_
                    refine R_s (f' := (53, [some (vR 1), some (vI b), some (vI n)], [], LAY (u (shA A) 18 (wr (wr (A 18) (F 5) ((b / 2 ^ (8 * (n - 1) : Int).toNat) % (255 + 1))) ((F 5) + 1) ((b / 2 ^ (8 * (n - 1 + (-1)) : Int).toNat) % (255 + 1)))) (u (shF F) 5 (((F 5) + 1) + 1)), 0, 0)) hc70 0 rfl trivial ?_
                    refine R_s (P := True) (f' := (60, [some (vR 1), some (vI b), some (vI n)], [vI (((F 5) + 1) + 1)], LAY (u (shA A) 18 (wr (wr (A 18) (F 5) ((b / 2 ^ (8 * (n - 1) : Int).toNat) % (255 + 1))) ((F 5) + 1) ((b / 2 ^ (8 * (n - 1 + (-1)) : Int).toNat) % (255 + 1)))) (u (shF F) 5 (((F 5) + 1) + 1)), 0, 0)) hc70 3 rfl trivial ?_
                    refine R_reti hc70 rfl rfl ?_
                    first
                      | (exfalso; omega; done)
                      | exact ⟨((F 5) + 1) + 1, (u A 18 (wr (wr (A 18) (F 5) ((b / 2 ^ (8 * (n - 1) : Int).toNat) % (255 + 1))) ((F 5) + 1) ((b / 2 ^ (8 * (n - 1 + (-1)) : Int).toNat) % (255 + 1)))), (u F 5 (((F 5) + 1) + 1)), (REL_tape hR0 (by simp only [wr_len]) (by omega)), rfl, rfl, rfl, ⟨⟨rfl, rfl, rfl, rfl, by first | exact Int.le_refl _ | (show F 3 ≤ F 3 + 1; omega), rfl, rfl, rfl, rfl, rfl, rfl⟩, fun h1 h2 h3 h4 => by exfalso; omega⟩⟩
                  · refine R_s (P := inI (8 * (n - 1 + (-1) + (-1))) ∧ (0 ≤ 8 * (n - 1 + (-1) + (-1)) ∧ 8 * (n - 1 + (-1) + (-1)) < 32) ∧ (255 = 1 ∨ 255 = 63 ∨ 255 = 255) ∧ (0 ≤ ((F 5) + 1) + 1 ∧ ((F 5) + 1) + 1 < ((wr (wr (A 18) (F 5) ((b / 2 ^ (8 * (n - 1) : Int).toNat) % (255 + 1))) ((F 5) + 1) ((b / 2 ^ (8 * (n - 1 + (-1)) : Int).toNat) % (255 + 1))).length : Int)) ∧ inI ((((F 5) + 1) + 1) + 1) ∧ inI (n - 1 + (-1) + (-1) + (-1)) ∧ True) (f' := (5, [some (vR 17), some (vI b), some (vI n), some (vI (n - 1 + (-1) + (-1) + (-1)))], [vI (n - 1 + (-1) + (-1) + (-1))], LAY (u (shA A) 18 (wr (wr (wr (A 18) (F 5) ((b / 2 ^ (8 * (n - 1) : Int).toNat) % (255 + 1))) ((F 5) + 1) ((b / 2 ^ (8 * (n - 1 + (-1)) : Int).toNat) % (255 + 1))) (((F 5) + 1) + 1) ((b / 2 ^ (8 * (n - 1 + (-1) + (-1)) : Int).toNat) % (255 + 1)))) (u (shF F) 5 ((((F 5) + 1) + 1) + 1)), 0, 0)) hc37 21 rfl ⟨⟨by omega, by omega⟩, ⟨by omega, by omega⟩, (by decide), ⟨by omega, by simp only [wr_len]; omega⟩, ⟨by omega, by omega⟩, ⟨by omega, by omega⟩, trivial⟩ ?_
                    refine R_if (t := 52) hc37 rfl rfl (fun (c10 : n - 1 + (-1) + (-1) + (-1) < 0) => ?_) (fun (c10 : ¬ (n - 1 + (-1) + (-1) + (-1) < 0)) => ?_)
                    · refine R_retv hc37 rfl rfl ?_
                      refine R_s (f' := (53, [some (vR 1), some (vI b), some (vI n)], [], LAY (u (shA A) 18 (wr (wr (wr (A 18) (F 5) ((b / 2 ^ (8 * (n - 1) : Int).toNat) % (255 + 1))) ((F 5) + 1) ((b / 2 ^ (8 * (n - 1 + (-1)) : Int).toNat) % (255 + 1))) (((F 5) + 1) + 1) ((b / 2 ^ (8 * (n - 1 + (-1) + (-1)) : Int).toNat) % (255 + 1)))) (u (shF F) 5 ((((F 5) + 1) + 1) + 1)), 0, 0)) hc70 0 rfl trivial ?_
                      refine R_s (P := True) (f' := (60, [some (vR 1), some (vI b), some (vI n)], [vI ((((F 5) + 1) + 1) + 1)], LAY (u (shA A) 18 (wr (wr (wr (A 18) (F 5) ((b / 2 ^ (8 * (n - 1) : Int).toNat) % (255 + 1))) ((F 5) + 1) ((b / 2 ^ (8 * (n - 1 + (-1)) : Int).toNat) % (255 + 1))) (((F 5) + 1) + 1) ((b / 2 ^ (8 * (n - 1 + (-1) + (-1)) : Int).toNat) % (255 + 1)))) (u (shF F) 5 ((((F 5) + 1) + 1) + 1)), 0, 0)) hc70 3 rfl trivial ?_
                      refine R_reti hc70 rfl rfl ?_
                      first
                        | (exfalso; omega; done)
                        | exact ⟨(((F 5) + 1) + 1) + 1, (u A 18 (wr (wr (wr (A 18) (F 5) ((b / 2 ^ (8 * (n - 1) : Int).toNat) % (255 + 1))) ((F 5) + 1) ((b / 2 ^ (8 * (n - 1 + (-1)) : Int).toNat) % (255 + 1))) (((F 5) + 1) + 1) ((b / 2 ^ (8 * (n - 1 + (-1) + (-1)) : Int).toNat) % (255 + 1)))), (u F 5 ((((F 5) + 1) + 1) + 1)), (REL_tape hR0 (by simp only [wr_len]) (by omega)), rfl, rfl, rfl, ⟨⟨rfl, rfl, rfl, rfl, by first | exact Int.le_refl _ | (show F 3 ≤ F 3 + 1; omega), rfl, rfl, rfl, rfl, rfl, rfl⟩, fun h1 h2 h3 h4 => by exfalso; omega⟩⟩
                    · refine R_s (P := True) (f' := (14, [some (vR 17), some (vI b), some (vI n), some (vI (n - 1 + (-1) + (-1) + (-1)))], [vI 120, vI ((((F 5) + 1) + 1) + 1)], LAY (u (shA A) 18 (wr (wr (wr (A 18) (F 5) ((b / 2 ^ (8 * (n - 1) : Int).toNat) % (255 + 1))) ((F 5) + 1) ((b / 2 ^ (8 * (n - 1 + (-1)) : Int).toNat) % (255 + 1))) (((F 5) + 1) + 1) ((b / 2 ^ (8 * (n - 1 + (-1) + (-1)) : Int).toNat) % (255 + 1)))) (u (shF F) 5 ((((F 5) + 1) + 1) + 1)), 0, 0)) hc37 3 rfl trivial ?_
                      refine R_ic (t := 52) hc37 rfl rfl (fun (c11 : 120 ≤ (((F 5) + 1) + 1) + 1) => ?_) (fun (c11 : ¬ (120 ≤ (((F 5) + 1) + 1) + 1)) => ?_)
                      · refine R_retv hc37 rfl rfl ?_
                        refine R_s (f' := (53, [some (vR 1), some (vI b), some (vI n)], [], LAY (u (shA A) 18 (wr (wr (wr (A 18) (F 5) ((b / 2 ^ (8 * (n - 1) : Int).toNat) % (255 + 1))) ((F 5) + 1) ((b / 2 ^ (8 * (n - 1 + (-1)) : Int).toNat) % (255 + 1))) (((F 5) + 1) + 1) ((b / 2 ^ (8 * (n - 1 + (-1) + (-1)) : Int).toNat) % (255 + 1)))) (u (shF F) 5 ((((F 5) + 1) + 1) + 1)), 0, 0)) hc70 0 rfl trivial ?_
                        refine R_s (P := True) (f' := (60, [some (vR 1), some (vI b), some (vI n)], [vI ((((F 5) + 1) + 1) + 1)], LAY (u (shA A) 18 (wr (wr (wr (A 18) (F 5) ((b / 2 ^ (8 * (n - 1) : Int).toNat) % (255 + 1))) ((F 5) + 1) ((b / 2 ^ (8 * (n - 1 + (-1)) : Int).toNat) % (255 + 1))) (((F 5) + 1) + 1) ((b / 2 ^ (8 * (n - 1 + (-1) + (-1)) : Int).toNat) % (255 + 1)))) (u (shF F) 5 ((((F 5) + 1) + 1) + 1)), 0, 0)) hc70 3 rfl trivial ?_
                        refine R_reti hc70 rfl rfl ?_
                        first
                          | (exfalso; omega; done)
                          | exact ⟨(((F 5) + 1) + 1) + 1, (u A 18 (wr (wr (wr (A 18) (F 5) ((b / 2 ^ (8 * (n - 1) : Int).toNat) % (255 + 1))) ((F 5) + 1) ((b / 2 ^ (8 * (n - 1 + (-1)) : Int).toNat) % (255 + 1))) (((F 5) + 1) + 1) ((b / 2 ^ (8 * (n - 1 + (-1) + (-1)) : Int).toNat) % (255 + 1)))), (u F 5 ((((F 5) + 1) + 1) + 1)), (REL_tape hR0 (by simp only [wr_len]) (by omega)), rfl, rfl, rfl, ⟨⟨rfl, rfl, rfl, rfl, by first | exact Int.le_refl _ | (show F 3 ≤ F 3 + 1; omega), rfl, rfl, rfl, rfl, rfl, rfl⟩, fun h1 h2 h3 h4 => by exfalso; omega⟩⟩
                      · refine R_s (P := inI (8 * (n - 1 + (-1) + (-1) + (-1))) ∧ (0 ≤ 8 * (n - 1 + (-1) + (-1) + (-1)) ∧ 8 * (n - 1 + (-1) + (-1) + (-1)) < 32) ∧ (255 = 1 ∨ 255 = 63 ∨ 255 = 255) ∧ (0 ≤ (((F 5) + 1) + 1) + 1 ∧ (((F 5) + 1) + 1) + 1 < ((wr (wr (wr (A 18) (F 5) ((b / 2 ^ (8 * (n - 1) : Int).toNat) % (255 + 1))) ((F 5) + 1) ((b / 2 ^ (8 * (n - 1 + (-1)) : Int).toNat) % (255 + 1))) (((F 5) + 1) + 1) ((b / 2 ^ (8 * (n - 1 + (-1) + (-1)) : Int).toNat) % (255 + 1))).length : Int)) ∧ inI (((((F 5) + 1) + 1) + 1) + 1) ∧ inI (n - 1 + (-1) + (-1) + (-1) + (-1)) ∧ True) (f' := (5, [some (vR 17), some (vI b), some (vI n), some (vI (n - 1 + (-1) + (-1) + (-1) + (-1)))], [vI (n - 1 + (-1) + (-1) + (-1) + (-1))], LAY (u (shA A) 18 (wr (wr (wr (wr (A 18) (F 5) ((b / 2 ^ (8 * (n - 1) : Int).toNat) % (255 + 1))) ((F 5) + 1) ((b / 2 ^ (8 * (n - 1 + (-1)) : Int).toNat) % (255 + 1))) (((F 5) + 1) + 1) ((b / 2 ^ (8 * (n - 1 + (-1) + (-1)) : Int).toNat) % (255 + 1))) ((((F 5) + 1) + 1) + 1) ((b / 2 ^ (8 * (n - 1 + (-1) + (-1) + (-1)) : Int).toNat) % (255 + 1)))) (u (shF F) 5 (((((F 5) + 1) + 1) + 1) + 1)), 0, 0)) hc37 21 rfl ⟨⟨by omega, by omega⟩, ⟨by omega, by omega⟩, (by decide), ⟨by omega, by simp only [wr_len]; omega⟩, ⟨by omega, by omega⟩, ⟨by omega, by omega⟩, trivial⟩ ?_
                        refine R_if (t := 52) hc37 rfl rfl (fun (_ : n - 1 + (-1) + (-1) + (-1) + (-1) < 0) => ?_) (fun (z : ¬ (n - 1 + (-1) + (-1) + (-1) + (-1) < 0)) => absurd (show n - 1 + (-1) + (-1) + (-1) + (-1) < 0 by omega) z)
                        refine R_retv hc37 rfl rfl ?_
                        refine R_s (f' := (53, [some (vR 1), some (vI b), some (vI n)], [], LAY (u (shA A) 18 (wr (wr (wr (wr (A 18) (F 5) ((b / 2 ^ (8 * (n - 1) : Int).toNat) % (255 + 1))) ((F 5) + 1) ((b / 2 ^ (8 * (n - 1 + (-1)) : Int).toNat) % (255 + 1))) (((F 5) + 1) + 1) ((b / 2 ^ (8 * (n - 1 + (-1) + (-1)) : Int).toNat) % (255 + 1))) ((((F 5) + 1) + 1) + 1) ((b / 2 ^ (8 * (n - 1 + (-1) + (-1) + (-1)) : Int).toNat) % (255 + 1)))) (u (shF F) 5 (((((F 5) + 1) + 1) + 1) + 1)), 0, 0)) hc70 0 rfl trivial ?_
                        refine R_s (P := True) (f' := (60, [some (vR 1), some (vI b), some (vI n)], [vI (((((F 5) + 1) + 1) + 1) + 1)], LAY (u (shA A) 18 (wr (wr (wr (wr (A 18) (F 5) ((b / 2 ^ (8 * (n - 1) : Int).toNat) % (255 + 1))) ((F 5) + 1) ((b / 2 ^ (8 * (n - 1 + (-1)) : Int).toNat) % (255 + 1))) (((F 5) + 1) + 1) ((b / 2 ^ (8 * (n - 1 + (-1) + (-1)) : Int).toNat) % (255 + 1))) ((((F 5) + 1) + 1) + 1) ((b / 2 ^ (8 * (n - 1 + (-1) + (-1) + (-1)) : Int).toNat) % (255 + 1)))) (u (shF F) 5 (((((F 5) + 1) + 1) + 1) + 1)), 0, 0)) hc70 3 rfl trivial ?_
                        refine R_reti hc70 rfl rfl ?_
                        first
                          | (exfalso; omega; done)
                          | exact ⟨((((F 5) + 1) + 1) + 1) + 1, (u A 18 (wr (wr (wr (wr (A 18) (F 5) ((b / 2 ^ (8 * (n - 1) : Int).toNat) % (255 + 1))) ((F 5) + 1) ((b / 2 ^ (8 * (n - 1 + (-1)) : Int).toNat) % (255 + 1))) (((F 5) + 1) + 1) ((b / 2 ^ (8 * (n - 1 + (-1) + (-1)) : Int).toNat) % (255 + 1))) ((((F 5) + 1) + 1) + 1) ((b / 2 ^ (8 * (n - 1 + (-1) + (-1) + (-1)) : Int).toNat) % (255 + 1)))), (u F 5 (((((F 5) + 1) + 1) + 1) + 1)), (REL_tape hR0 (by simp only [wr_len]) (by omega)), rfl, rfl, rfl, ⟨⟨rfl, rfl, rfl, rfl, by first | exact Int.le_refl _ | (show F 3 ≤ F 3 + 1; omega), rfl, rfl, rfl, rfl, rfl, rfl⟩, fun h1 h2 h3 h4 => by exfalso; omega⟩⟩
      · refine R_s (P := True) (f' := (40, [some (vR 1), some (vI b), some (vI n)], [vI (-8), vR 1], LAY (shA A) (shF F), 0, 0)) hc70 2 rfl trivial ?_
        refine R_cv hc70 rfl rfl ?_ (fun r G h => h)
        refine R_s (P := True) (f' := (3, [some (vR 1), some (vI (-8))], [vI (-2), vI (-8)], LAY (shA A) (shF F), 0, 0)) hc93 2 rfl trivial ?_
        refine R_ic (t := 23) hc93 rfl rfl (fun (z : (-2) < (-8)) => absurd z (by decide)) (fun (_ : ¬ ((-2) < (-8))) => ?_)
        refine R_s (P := True) (f' := (9, [some (vR 1), some (vI (-8))], [vI (-8), vI (-8)], LAY (shA A) (shF F), 0, 0)) hc93 2 rfl trivial ?_
        refine R_ic (t := 23) hc93 rfl rfl (fun (z : (-8) < (-8)) => absurd z (by decide)) (fun (_ : ¬ ((-8) < (-8))) => ?_)
        refine R_s (P := inI 8 ∧ (0 ≤ 8 ∧ 8 < ((A 87).length : Int)) ∧ inI ((rd (A 87) 8) + 1) ∧ (0 ≤ 8 ∧ 8 < ((A 87).length : Int)) ∧ True) (f' := (24, [some (vR 1), some (vI (-8))], [vI (-8)], LAY (u (shA A) 87 (wr (A 87) 8 ((rd (A 87) 8) + 1))) (shF F), 0, 0)) hc93 10 rfl ⟨⟨by omega, by omega⟩, ⟨by omega, by omega⟩, ⟨by omega, by omega⟩, ⟨by omega, by omega⟩, trivial⟩ ?_
        refine R_reti hc93 rfl rfl ?_
        refine R_s (f' := (43, [some (vR 1), some (vI b), some (vI n)], [vI (-8)], LAY (u (shA A) 87 (wr (A 87) 8 ((rd (A 87) 8) + 1))) (shF F), 0, 0)) hc70 0 rfl trivial ?_
        refine R_reti hc70 rfl rfl ?_
        first
          | (exfalso; omega; done)
          | exact ⟨(-8), (u A 87 (wr (A 87) 8 ((rd (A 87) 8) + 1))), F, REL_ref hR0 (by decide) (by decide), rfl, rfl, rfl, ⟨⟨rfl, rfl, rfl, rfl, by first | exact Int.le_refl _ | (show F 3 ≤ F 3 + 1; omega), rfl, rfl, rfl, rfl, rfl, rfl⟩, fun h1 h2 h3 h4 => by exfalso; omega⟩⟩
    · refine R_s (P := True) (f' := (19, [some (vR 1), some (vI b), some (vI n)], [vI (-7), vR 1], LAY (shA A) (shF F), 0, 0)) hc70 2 rfl trivial ?_
      refine R_cv hc70 rfl rfl ?_ (fun r G h => h)
      refine R_s (P := True) (f' := (3, [some (vR 1), some (vI (-7))], [vI (-2), vI (-7)], LAY (shA A) (shF F), 0, 0)) hc93 2 rfl trivial ?_
      refine R_ic (t := 23) hc93 rfl rfl (fun (z : (-2) < (-7)) => absurd z (by decide)) (fun (_ : ¬ ((-2) < (-7))) => ?_)
      refine R_s (P := True) (f' := (9, [some (vR 1), some (vI (-7))], [vI (-8), vI (-7)], LAY (shA A) (shF F), 0, 0)) hc93 2 rfl trivial ?_
      refine R_ic (t := 23) hc93 rfl rfl (fun (z : (-7) < (-8)) => absurd z (by decide)) (fun (_ : ¬ ((-7) < (-8))) => ?_)
      refine R_s (P := inI 7 ∧ (0 ≤ 7 ∧ 7 < ((A 87).length : Int)) ∧ inI ((rd (A 87) 7) + 1) ∧ (0 ≤ 7 ∧ 7 < ((A 87).length : Int)) ∧ True) (f' := (24, [some (vR 1), some (vI (-7))], [vI (-7)], LAY (u (shA A) 87 (wr (A 87) 7 ((rd (A 87) 7) + 1))) (shF F), 0, 0)) hc93 10 rfl ⟨⟨by omega, by omega⟩, ⟨by omega, by omega⟩, ⟨by omega, by omega⟩, ⟨by omega, by omega⟩, trivial⟩ ?_
      refine R_reti hc93 rfl rfl ?_
      refine R_s (f' := (22, [some (vR 1), some (vI b), some (vI n)], [vI (-7)], LAY (u (shA A) 87 (wr (A 87) 7 ((rd (A 87) 7) + 1))) (shF F), 0, 0)) hc70 0 rfl trivial ?_
      refine R_reti hc70 rfl rfl ?_
      first
        | (exfalso; omega; done)
        | exact ⟨(-7), (u A 87 (wr (A 87) 7 ((rd (A 87) 7) + 1))), F, REL_ref hR0 (by decide) (by decide), rfl, rfl, rfl, ⟨⟨rfl, rfl, rfl, rfl, by first | exact Int.le_refl _ | (show F 3 ≤ F 3 + 1; omega), rfl, rfl, rfl, rfl, rfl, rfl⟩, fun h1 h2 h3 h4 => by exfalso; omega⟩⟩
  · refine R_s (P := True) (f' := (7, [some (vR 1), some (vI b), some (vI n)], [vI (-4), vR 1], LAY (shA A) (shF F), 0, 0)) hc70 2 rfl trivial ?_
    refine R_cv hc70 rfl rfl ?_ (fun r G h => h)
    refine R_s (P := True) (f' := (3, [some (vR 1), some (vI (-4))], [vI (-2), vI (-4)], LAY (shA A) (shF F), 0, 0)) hc93 2 rfl trivial ?_
    refine R_ic (t := 23) hc93 rfl rfl (fun (z : (-2) < (-4)) => absurd z (by decide)) (fun (_ : ¬ ((-2) < (-4))) => ?_)
    refine R_s (P := True) (f' := (9, [some (vR 1), some (vI (-4))], [vI (-8), vI (-4)], LAY (shA A) (shF F), 0, 0)) hc93 2 rfl trivial ?_
    refine R_ic (t := 23) hc93 rfl rfl (fun (z : (-4) < (-8)) => absurd z (by decide)) (fun (_ : ¬ ((-4) < (-8))) => ?_)
    refine R_s (P := inI 4 ∧ (0 ≤ 4 ∧ 4 < ((A 87).length : Int)) ∧ inI ((rd (A 87) 4) + 1) ∧ (0 ≤ 4 ∧ 4 < ((A 87).length : Int)) ∧ True) (f' := (24, [some (vR 1), some (vI (-4))], [vI (-4)], LAY (u (shA A) 87 (wr (A 87) 4 ((rd (A 87) 4) + 1))) (shF F), 0, 0)) hc93 10 rfl ⟨⟨by omega, by omega⟩, ⟨by omega, by omega⟩, ⟨by omega, by omega⟩, ⟨by omega, by omega⟩, trivial⟩ ?_
    refine R_reti hc93 rfl rfl ?_
    refine R_s (f' := (10, [some (vR 1), some (vI b), some (vI n)], [vI (-4)], LAY (u (shA A) 87 (wr (A 87) 4 ((rd (A 87) 4) + 1))) (shF F), 0, 0)) hc70 0 rfl trivial ?_
    refine R_reti hc70 rfl rfl ?_
    first
      | (exfalso; omega; done)
      | exact ⟨(-4), (u A 87 (wr (A 87) 4 ((rd (A 87) 4) + 1))), F, REL_ref hR0 (by decide) (by decide), rfl, rfl, rfl, ⟨⟨rfl, rfl, rfl, rfl, by first | exact Int.le_refl _ | (show F 3 ≤ F 3 + 1; omega), rfl, rfl, rfl, rfl, rfl, rfl⟩, fun h1 h2 h3 h4 => by exfalso; omega⟩⟩

