theorem law_loop {sc : List Int} (hlen0 : sc.length ≤ 2560) (hsc0 : ∀ z ∈ sc, inI z) : ∀ (m j : Nat) (A : Nat → List Int) (F : Nat → Int) (x : Int), x = 5 * (j : Int) → A 0 = sc → REL j A F → 5 * (j : Int) ≤ (sc.length : Int) + 4 → 513 ≤ j + m → R 169 (18, [some (vR 0), some (vR 1), some (vR 88), some (vI x)], [], LAY (shA A) (shF F), 113, 2248) (fun r _ => r = some (vI 1)) := by
  intro m
  induction m with
  | zero =>
    intro j A F x ex e0 hR hi hm
    exact absurd hm (by omega)
  | succ m ih =>
    intro j A F x ex e0 hR hi hm
    have hlen : (A 0).length ≤ 2560 := by rw [e0]; exact hlen0
    have hll : (A 0).length = sc.length := by rw [e0]
    have hsc : ∀ z ∈ A 0, inI z := by rw [e0]; exact hsc0
    refine R_s (P := ((A 0).length ≤ 2560) ∧ inI ((((A 0).length : Nat) : Int) - 5) ∧ True) (f' := (23, [some (vR 0), some (vR 1), some (vR 88), some (vI x)], [vI ((((A 0).length : Nat) : Int) - 5), vI x], LAY (shA A) (shF F), 113, 2248)) hc169 5 rfl ⟨hlen, ⟨by ((try rw [e1]); omega), by ((try rw [e1]); omega)⟩, trivial⟩ ?_
    refine R_ic (t := 1307) hc169 rfl rfl (fun (c1 : (((A 0).length : Nat) : Int) - 5 < x) => ?_) (fun (c1 : ¬ ((((A 0).length : Nat) : Int) - 5 < x)) => ?_)
    · refine R_s (P := True) (f' := (1308, [some (vR 0), some (vR 1), some (vR 88), some (vI x)], [vI 1], LAY (shA A) (shF F), 113, 2248)) hc169 1 rfl trivial ?_
      exact R_retz hc169 rfl rfl (Or.inr rfl) rfl
    · refine R_s (P := (0 ≤ x ∧ x < ((A 0).length : Int)) ∧ (63 = 1 ∨ 63 = 63 ∨ 63 = 255) ∧ True) (f' := (32, [some (vR 0), some (vR 1), some (vR 88), some (vI x)], [vI ((rd (A 0) x) % (63 + 1))], LAY (shA A) (shF F), 113, 2248)) hc169 5 rfl ⟨⟨by ((try rw [e1]); omega), by ((try rw [e1]); omega)⟩, (by decide), trivial⟩ ?_
      refine R_sw (t := 1301) hc169 rfl (by decide) (fun isw o hio (c2 : (rd (A 0) x) % (63 + 1) = 0 + isw) => ?_) rfl (fun (c2 : (rd (A 0) x) % (63 + 1) < 0 ∨ 32 < (rd (A 0) x) % (63 + 1)) => ?_)
      · match isw, hio, c2 with
        | 0, hio, c2 =>
          cases hio
          refine R_s (f' := (180, [some (vR 0), some (vR 1), some (vR 88), some (vI x)], [], LAY (shA A) (shF F), 113, 2248)) hc169 0 rfl trivial ?_
          refine R_s (P := inI (x + 1) ∧ (0 ≤ x + 1 ∧ x + 1 < ((A 0).length : Int)) ∧ inI (x + 2) ∧ (0 ≤ x + 2 ∧ x + 2 < ((A 0).length : Int)) ∧ True) (f' := (191, [some (vR 0), some (vR 1), some (vR 88), some (vI x)], [vI (rd (A 0) (x + 2)), vI (rd (A 0) (x + 1)), vR 1], LAY (shA A) (shF F), 113, 2248)) hc169 11 rfl ⟨⟨by ((try rw [e1]); omega), by ((try rw [e1]); omega)⟩, ⟨by ((try rw [e1]); omega), by ((try rw [e1]); omega)⟩, ⟨by ((try rw [e1]); omega), by ((try rw [e1]); omega)⟩, ⟨by ((try rw [e1]); omega), by ((try rw [e1]); omega)⟩, trivial⟩ ?_
          refine R_cv hc169 rfl rfl (op_person hR (by omega) (rd (A 0) (x + 1)) (rd (A 0) (x + 2)) (rd_in hsc _) (rd_in hsc _)) (fun r G9 hp9 => ?_)
          obtain ⟨⟨v, rfl⟩, ⟨A1, F1, rfl, e1⟩, hM⟩ := hp9
          refine R_s (f' := (194, [some (vR 0), some (vR 1), some (vR 88), some (vI x)], [vI v], LAY A1 F1, 113, 2248)) hc169 0 rfl trivial ?_
          refine R_s (P := inI (x + 1) ∧ (0 ≤ x + 1 ∧ x + 1 < ((A1 0).length : Int)) ∧ inI (x + 2) ∧ (0 ≤ x + 2 ∧ x + 2 < ((A1 0).length : Int)) ∧ True) (f' := (205, [some (vR 0), some (vR 1), some (vR 88), some (vI x)], [vI (rd (A1 0) (x + 2)), vI (rd (A1 0) (x + 1)), vR 88, vI v], LAY A1 F1, 113, 2248)) hc169 11 rfl ⟨⟨by ((try rw [e1]); omega), by ((try rw [e1]); omega)⟩, ⟨by ((try rw [e1]); omega), by ((try rw [e1]); omega)⟩, ⟨by ((try rw [e1]); omega), by ((try rw [e1]); omega)⟩, ⟨by ((try rw [e1]); omega), by ((try rw [e1]); omega)⟩, trivial⟩ ?_
          (try rw [e1])
          refine R_cv hc169 rfl rfl hM (fun r G9 hp9 => ?_)
          obtain ⟨rfl, A2, F2, rfl, e2, hR2⟩ := hp9
          refine R_s (f' := (208, [some (vR 0), some (vR 1), some (vR 88), some (vI x)], [vI v, vI v], LAY (shA A2) (shF F2), 113, 2248)) hc169 0 rfl trivial ?_
          refine R_ic (t := 1301) hc169 rfl rfl (fun (_ : v = v) => ?_) (fun (z : ¬ (v = v)) => absurd (show v = v by ((try rw [e1]); omega)) z)
          refine R_s (P := inI (x + 5) ∧ True) (f' := (18, [some (vR 0), some (vR 1), some (vR 88), some (vI (x + 5))], [], LAY (shA A2) (shF F2), 113, 2248)) hc169 2 rfl ⟨⟨by ((try rw [e1]); omega), by ((try rw [e1]); omega)⟩, trivial⟩ ?_
          exact ih (j + 1) A2 F2 _ (by push_cast; omega) (by rw [e2]; exact e0) (by push_cast; exact hR2) (by push_cast; omega) (by omega)
        | 1, hio, c2 =>
          cases hio
          refine R_s (f' := (213, [some (vR 0), some (vR 1), some (vR 88), some (vI x)], [], LAY (shA A) (shF F), 113, 2248)) hc169 0 rfl trivial ?_
          refine R_s (P := inI (x + 1) ∧ (0 ≤ x + 1 ∧ x + 1 < ((A 0).length : Int)) ∧ inI (x + 2) ∧ (0 ≤ x + 2 ∧ x + 2 < ((A 0).length : Int)) ∧ True) (f' := (224, [some (vR 0), some (vR 1), some (vR 88), some (vI x)], [vI (rd (A 0) (x + 2)), vI (rd (A 0) (x + 1)), vR 1], LAY (shA A) (shF F), 113, 2248)) hc169 11 rfl ⟨⟨by ((try rw [e1]); omega), by ((try rw [e1]); omega)⟩, ⟨by ((try rw [e1]); omega), by ((try rw [e1]); omega)⟩, ⟨by ((try rw [e1]); omega), by ((try rw [e1]); omega)⟩, ⟨by ((try rw [e1]); omega), by ((try rw [e1]); omega)⟩, trivial⟩ ?_
          refine R_cv hc169 rfl rfl (op_death hR (by omega) (rd (A 0) (x + 1)) (rd (A 0) (x + 2)) (rd_in hsc _) (rd_in hsc _)) (fun r G9 hp9 => ?_)
          obtain ⟨⟨v, rfl⟩, ⟨A1, F1, rfl, e1⟩, hM⟩ := hp9
          refine R_s (f' := (227, [some (vR 0), some (vR 1), some (vR 88), some (vI x)], [vI v], LAY A1 F1, 113, 2248)) hc169 0 rfl trivial ?_
          refine R_s (P := inI (x + 1) ∧ (0 ≤ x + 1 ∧ x + 1 < ((A1 0).length : Int)) ∧ inI (x + 2) ∧ (0 ≤ x + 2 ∧ x + 2 < ((A1 0).length : Int)) ∧ True) (f' := (238, [some (vR 0), some (vR 1), some (vR 88), some (vI x)], [vI (rd (A1 0) (x + 2)), vI (rd (A1 0) (x + 1)), vR 88, vI v], LAY A1 F1, 113, 2248)) hc169 11 rfl ⟨⟨by ((try rw [e1]); omega), by ((try rw [e1]); omega)⟩, ⟨by ((try rw [e1]); omega), by ((try rw [e1]); omega)⟩, ⟨by ((try rw [e1]); omega), by ((try rw [e1]); omega)⟩, ⟨by ((try rw [e1]); omega), by ((try rw [e1]); omega)⟩, trivial⟩ ?_
          (try rw [e1])
          refine R_cv hc169 rfl rfl hM (fun r G9 hp9 => ?_)
          obtain ⟨rfl, A2, F2, rfl, e2, hR2⟩ := hp9
          refine R_s (f' := (241, [some (vR 0), some (vR 1), some (vR 88), some (vI x)], [vI v, vI v], LAY (shA A2) (shF F2), 113, 2248)) hc169 0 rfl trivial ?_
          refine R_ic (t := 1301) hc169 rfl rfl (fun (_ : v = v) => ?_) (fun (z : ¬ (v = v)) => absurd (show v = v by ((try rw [e1]); omega)) z)
          refine R_s (P := inI (x + 5) ∧ True) (f' := (18, [some (vR 0), some (vR 1), some (vR 88), some (vI (x + 5))], [], LAY (shA A2) (shF F2), 113, 2248)) hc169 2 rfl ⟨⟨by ((try rw [e1]); omega), by ((try rw [e1]); omega)⟩, trivial⟩ ?_
          exact ih (j + 1) A2 F2 _ (by push_cast; omega) (by rw [e2]; exact e0) (by push_cast; exact hR2) (by push_cast; omega) (by omega)
        | 2, hio, c2 =>
          cases hio
          refine R_s (f' := (246, [some (vR 0), some (vR 1), some (vR 88), some (vI x)], [], LAY (shA A) (shF F), 113, 2248)) hc169 0 rfl trivial ?_
          refine R_s (P := inI (x + 1) ∧ (0 ≤ x + 1 ∧ x + 1 < ((A 0).length : Int)) ∧ inI (x + 2) ∧ (0 ≤ x + 2 ∧ x + 2 < ((A 0).length : Int)) ∧ True) (f' := (257, [some (vR 0), some (vR 1), some (vR 88), some (vI x)], [vI (rd (A 0) (x + 2)), vI (rd (A 0) (x + 1)), vR 1], LAY (shA A) (shF F), 113, 2248)) hc169 11 rfl ⟨⟨by ((try rw [e1]); omega), by ((try rw [e1]); omega)⟩, ⟨by ((try rw [e1]); omega), by ((try rw [e1]); omega)⟩, ⟨by ((try rw [e1]); omega), by ((try rw [e1]); omega)⟩, ⟨by ((try rw [e1]); omega), by ((try rw [e1]); omega)⟩, trivial⟩ ?_
          refine R_cv hc169 rfl rfl (op_unknown hR (by omega) (rd (A 0) (x + 1)) (rd (A 0) (x + 2)) (rd_in hsc _) (rd_in hsc _)) (fun r G9 hp9 => ?_)
          obtain ⟨⟨v, rfl⟩, ⟨A1, F1, rfl, e1⟩, hM⟩ := hp9
          refine R_s (f' := (260, [some (vR 0), some (vR 1), some (vR 88), some (vI x)], [vI v], LAY A1 F1, 113, 2248)) hc169 0 rfl trivial ?_
          refine R_s (P := inI (x + 1) ∧ (0 ≤ x + 1 ∧ x + 1 < ((A1 0).length : Int)) ∧ inI (x + 2) ∧ (0 ≤ x + 2 ∧ x + 2 < ((A1 0).length : Int)) ∧ True) (f' := (271, [some (vR 0), some (vR 1), some (vR 88), some (vI x)], [vI (rd (A1 0) (x + 2)), vI (rd (A1 0) (x + 1)), vR 88, vI v], LAY A1 F1, 113, 2248)) hc169 11 rfl ⟨⟨by ((try rw [e1]); omega), by ((try rw [e1]); omega)⟩, ⟨by ((try rw [e1]); omega), by ((try rw [e1]); omega)⟩, ⟨by ((try rw [e1]); omega), by ((try rw [e1]); omega)⟩, ⟨by ((try rw [e1]); omega), by ((try rw [e1]); omega)⟩, trivial⟩ ?_
          (try rw [e1])
          refine R_cv hc169 rfl rfl hM (fun r G9 hp9 => ?_)
          obtain ⟨rfl, A2, F2, rfl, e2, hR2⟩ := hp9
          refine R_s (f' := (274, [some (vR 0), some (vR 1), some (vR 88), some (vI x)], [vI v, vI v], LAY (shA A2) (shF F2), 113, 2248)) hc169 0 rfl trivial ?_
          refine R_ic (t := 1301) hc169 rfl rfl (fun (_ : v = v) => ?_) (fun (z : ¬ (v = v)) => absurd (show v = v by ((try rw [e1]); omega)) z)
          refine R_s (P := inI (x + 5) ∧ True) (f' := (18, [some (vR 0), some (vR 1), some (vR 88), some (vI (x + 5))], [], LAY (shA A2) (shF F2), 113, 2248)) hc169 2 rfl ⟨⟨by ((try rw [e1]); omega), by ((try rw [e1]); omega)⟩, trivial⟩ ?_
          exact ih (j + 1) A2 F2 _ (by push_cast; omega) (by rw [e2]; exact e0) (by push_cast; exact hR2) (by push_cast; omega) (by omega)
        | 3, hio, c2 =>
          cases hio
          refine R_s (f' := (279, [some (vR 0), some (vR 1), some (vR 88), some (vI x)], [], LAY (shA A) (shF F), 113, 2248)) hc169 0 rfl trivial ?_
          refine R_s (P := inI (x + 1) ∧ (0 ≤ x + 1 ∧ x + 1 < ((A 0).length : Int)) ∧ inI (x + 2) ∧ (0 ≤ x + 2 ∧ x + 2 < ((A 0).length : Int)) ∧ True) (f' := (290, [some (vR 0), some (vR 1), some (vR 88), some (vI x)], [vI (rd (A 0) (x + 2)), vI (rd (A 0) (x + 1)), vR 1], LAY (shA A) (shF F), 113, 2248)) hc169 11 rfl ⟨⟨by ((try rw [e1]); omega), by ((try rw [e1]); omega)⟩, ⟨by ((try rw [e1]); omega), by ((try rw [e1]); omega)⟩, ⟨by ((try rw [e1]); omega), by ((try rw [e1]); omega)⟩, ⟨by ((try rw [e1]); omega), by ((try rw [e1]); omega)⟩, trivial⟩ ?_
          refine R_cv hc169 rfl rfl (op_taken hR (by omega) (rd (A 0) (x + 1)) (rd (A 0) (x + 2)) (rd_in hsc _) (rd_in hsc _)) (fun r G9 hp9 => ?_)
          obtain ⟨⟨v, rfl⟩, ⟨A1, F1, rfl, e1⟩, hM⟩ := hp9
          refine R_s (f' := (293, [some (vR 0), some (vR 1), some (vR 88), some (vI x)], [vI v], LAY A1 F1, 113, 2248)) hc169 0 rfl trivial ?_
          refine R_s (P := inI (x + 1) ∧ (0 ≤ x + 1 ∧ x + 1 < ((A1 0).length : Int)) ∧ inI (x + 2) ∧ (0 ≤ x + 2 ∧ x + 2 < ((A1 0).length : Int)) ∧ True) (f' := (304, [some (vR 0), some (vR 1), some (vR 88), some (vI x)], [vI (rd (A1 0) (x + 2)), vI (rd (A1 0) (x + 1)), vR 88, vI v], LAY A1 F1, 113, 2248)) hc169 11 rfl ⟨⟨by ((try rw [e1]); omega), by ((try rw [e1]); omega)⟩, ⟨by ((try rw [e1]); omega), by ((try rw [e1]); omega)⟩, ⟨by ((try rw [e1]); omega), by ((try rw [e1]); omega)⟩, ⟨by ((try rw [e1]); omega), by ((try rw [e1]); omega)⟩, trivial⟩ ?_
          (try rw [e1])
          refine R_cv hc169 rfl rfl hM (fun r G9 hp9 => ?_)
          obtain ⟨rfl, A2, F2, rfl, e2, hR2⟩ := hp9
          refine R_s (f' := (307, [some (vR 0), some (vR 1), some (vR 88), some (vI x)], [vI v, vI v], LAY (shA A2) (shF F2), 113, 2248)) hc169 0 rfl trivial ?_
          refine R_ic (t := 1301) hc169 rfl rfl (fun (_ : v = v) => ?_) (fun (z : ¬ (v = v)) => absurd (show v = v by ((try rw [e1]); omega)) z)
          refine R_s (P := inI (x + 5) ∧ True) (f' := (18, [some (vR 0), some (vR 1), some (vR 88), some (vI (x + 5))], [], LAY (shA A2) (shF F2), 113, 2248)) hc169 2 rfl ⟨⟨by ((try rw [e1]); omega), by ((try rw [e1]); omega)⟩, trivial⟩ ?_
          exact ih (j + 1) A2 F2 _ (by push_cast; omega) (by rw [e2]; exact e0) (by push_cast; exact hR2) (by push_cast; omega) (by omega)
        | 4, hio, c2 =>
          cases hio
          refine R_s (f' := (312, [some (vR 0), some (vR 1), some (vR 88), some (vI x)], [], LAY (shA A) (shF F), 113, 2248)) hc169 0 rfl trivial ?_
          refine R_s (P := inI (x + 1) ∧ (0 ≤ x + 1 ∧ x + 1 < ((A 0).length : Int)) ∧ inI (x + 2) ∧ (0 ≤ x + 2 ∧ x + 2 < ((A 0).length : Int)) ∧ True) (f' := (323, [some (vR 0), some (vR 1), some (vR 88), some (vI x)], [vI (rd (A 0) (x + 2)), vI (rd (A 0) (x + 1)), vR 1], LAY (shA A) (shF F), 113, 2248)) hc169 11 rfl ⟨⟨by ((try rw [e1]); omega), by ((try rw [e1]); omega)⟩, ⟨by ((try rw [e1]); omega), by ((try rw [e1]); omega)⟩, ⟨by ((try rw [e1]); omega), by ((try rw [e1]); omega)⟩, ⟨by ((try rw [e1]); omega), by ((try rw [e1]); omega)⟩, trivial⟩ ?_
          refine R_cv hc169 rfl rfl (op_look hR (by omega) (rd (A 0) (x + 1)) (rd (A 0) (x + 2)) (rd_in hsc _) (rd_in hsc _)) (fun r G9 hp9 => ?_)
          obtain ⟨⟨v, rfl⟩, ⟨A1, F1, rfl, e1⟩, hM⟩ := hp9
          refine R_s (f' := (326, [some (vR 0), some (vR 1), some (vR 88), some (vI x)], [vI v], LAY A1 F1, 113, 2248)) hc169 0 rfl trivial ?_
          refine R_s (P := inI (x + 1) ∧ (0 ≤ x + 1 ∧ x + 1 < ((A1 0).length : Int)) ∧ inI (x + 2) ∧ (0 ≤ x + 2 ∧ x + 2 < ((A1 0).length : Int)) ∧ True) (f' := (337, [some (vR 0), some (vR 1), some (vR 88), some (vI x)], [vI (rd (A1 0) (x + 2)), vI (rd (A1 0) (x + 1)), vR 88, vI v], LAY A1 F1, 113, 2248)) hc169 11 rfl ⟨⟨by ((try rw [e1]); omega), by ((try rw [e1]); omega)⟩, ⟨by ((try rw [e1]); omega), by ((try rw [e1]); omega)⟩, ⟨by ((try rw [e1]); omega), by ((try rw [e1]); omega)⟩, ⟨by ((try rw [e1]); omega), by ((try rw [e1]); omega)⟩, trivial⟩ ?_
          (try rw [e1])
          refine R_cv hc169 rfl rfl hM (fun r G9 hp9 => ?_)
          obtain ⟨rfl, A2, F2, rfl, e2, hR2⟩ := hp9
          refine R_s (f' := (340, [some (vR 0), some (vR 1), some (vR 88), some (vI x)], [vI v, vI v], LAY (shA A2) (shF F2), 113, 2248)) hc169 0 rfl trivial ?_
          refine R_ic (t := 1301) hc169 rfl rfl (fun (_ : v = v) => ?_) (fun (z : ¬ (v = v)) => absurd (show v = v by ((try rw [e1]); omega)) z)
          refine R_s (P := inI (x + 5) ∧ True) (f' := (18, [some (vR 0), some (vR 1), some (vR 88), some (vI (x + 5))], [], LAY (shA A2) (shF F2), 113, 2248)) hc169 2 rfl ⟨⟨by ((try rw [e1]); omega), by ((try rw [e1]); omega)⟩, trivial⟩ ?_
          exact ih (j + 1) A2 F2 _ (by push_cast; omega) (by rw [e2]; exact e0) (by push_cast; exact hR2) (by push_cast; omega) (by omega)
        | 5, hio, c2 =>
          cases hio
          refine R_s (f' := (345, [some (vR 0), some (vR 1), some (vR 88), some (vI x)], [], LAY (shA A) (shF F), 113, 2248)) hc169 0 rfl trivial ?_
          refine R_s (P := inI (x + 1) ∧ (0 ≤ x + 1 ∧ x + 1 < ((A 0).length : Int)) ∧ inI (x + 2) ∧ (0 ≤ x + 2 ∧ x + 2 < ((A 0).length : Int)) ∧ True) (f' := (356, [some (vR 0), some (vR 1), some (vR 88), some (vI x)], [vI (rd (A 0) (x + 2)), vI (rd (A 0) (x + 1)), vR 1], LAY (shA A) (shF F), 113, 2248)) hc169 11 rfl ⟨⟨by ((try rw [e1]); omega), by ((try rw [e1]); omega)⟩, ⟨by ((try rw [e1]); omega), by ((try rw [e1]); omega)⟩, ⟨by ((try rw [e1]); omega), by ((try rw [e1]); omega)⟩, ⟨by ((try rw [e1]); omega), by ((try rw [e1]); omega)⟩, trivial⟩ ?_
          refine R_cv hc169 rfl rfl (op_thing hR (by omega) (rd (A 0) (x + 1)) (rd (A 0) (x + 2)) (rd_in hsc _) (rd_in hsc _)) (fun r G9 hp9 => ?_)
          obtain ⟨⟨v, rfl⟩, ⟨A1, F1, rfl, e1⟩, hM⟩ := hp9
          refine R_s (f' := (359, [some (vR 0), some (vR 1), some (vR 88), some (vI x)], [vI v], LAY A1 F1, 113, 2248)) hc169 0 rfl trivial ?_
          refine R_s (P := inI (x + 1) ∧ (0 ≤ x + 1 ∧ x + 1 < ((A1 0).length : Int)) ∧ inI (x + 2) ∧ (0 ≤ x + 2 ∧ x + 2 < ((A1 0).length : Int)) ∧ True) (f' := (370, [some (vR 0), some (vR 1), some (vR 88), some (vI x)], [vI (rd (A1 0) (x + 2)), vI (rd (A1 0) (x + 1)), vR 88, vI v], LAY A1 F1, 113, 2248)) hc169 11 rfl ⟨⟨by ((try rw [e1]); omega), by ((try rw [e1]); omega)⟩, ⟨by ((try rw [e1]); omega), by ((try rw [e1]); omega)⟩, ⟨by ((try rw [e1]); omega), by ((try rw [e1]); omega)⟩, ⟨by ((try rw [e1]); omega), by ((try rw [e1]); omega)⟩, trivial⟩ ?_
          (try rw [e1])
          refine R_cv hc169 rfl rfl hM (fun r G9 hp9 => ?_)
          obtain ⟨rfl, A2, F2, rfl, e2, hR2⟩ := hp9
          refine R_s (f' := (373, [some (vR 0), some (vR 1), some (vR 88), some (vI x)], [vI v, vI v], LAY (shA A2) (shF F2), 113, 2248)) hc169 0 rfl trivial ?_
          refine R_ic (t := 1301) hc169 rfl rfl (fun (_ : v = v) => ?_) (fun (z : ¬ (v = v)) => absurd (show v = v by ((try rw [e1]); omega)) z)
          refine R_s (P := inI (x + 5) ∧ True) (f' := (18, [some (vR 0), some (vR 1), some (vR 88), some (vI (x + 5))], [], LAY (shA A2) (shF F2), 113, 2248)) hc169 2 rfl ⟨⟨by ((try rw [e1]); omega), by ((try rw [e1]); omega)⟩, trivial⟩ ?_
          exact ih (j + 1) A2 F2 _ (by push_cast; omega) (by rw [e2]; exact e0) (by push_cast; exact hR2) (by push_cast; omega) (by omega)
        | 6, hio, c2 =>
          cases hio
          refine R_s (f' := (378, [some (vR 0), some (vR 1), some (vR 88), some (vI x)], [], LAY (shA A) (shF F), 113, 2248)) hc169 0 rfl trivial ?_
          refine R_s (P := inI (x + 1) ∧ (0 ≤ x + 1 ∧ x + 1 < ((A 0).length : Int)) ∧ inI (x + 2) ∧ (0 ≤ x + 2 ∧ x + 2 < ((A 0).length : Int)) ∧ inI (x + 3) ∧ (0 ≤ x + 3 ∧ x + 3 < ((A 0).length : Int)) ∧ True) (f' := (394, [some (vR 0), some (vR 1), some (vR 88), some (vI x)], [vI (rd (A 0) (x + 3)), vI (rd (A 0) (x + 2)), vI (rd (A 0) (x + 1)), vR 1], LAY (shA A) (shF F), 113, 2248)) hc169 16 rfl ⟨⟨by ((try rw [e1]); omega), by ((try rw [e1]); omega)⟩, ⟨by ((try rw [e1]); omega), by ((try rw [e1]); omega)⟩, ⟨by ((try rw [e1]); omega), by ((try rw [e1]); omega)⟩, ⟨by ((try rw [e1]); omega), by ((try rw [e1]); omega)⟩, ⟨by ((try rw [e1]); omega), by ((try rw [e1]); omega)⟩, ⟨by ((try rw [e1]); omega), by ((try rw [e1]); omega)⟩, trivial⟩ ?_
          refine R_cv hc169 rfl rfl (op_tell hR (by omega) (rd (A 0) (x + 1)) (rd (A 0) (x + 2)) (rd (A 0) (x + 3)) (rd_in hsc _) (rd_in hsc _) (rd_in hsc _)) (fun r G9 hp9 => ?_)
          obtain ⟨⟨v, rfl⟩, ⟨A1, F1, rfl, e1⟩, hM⟩ := hp9
          refine R_s (f' := (397, [some (vR 0), some (vR 1), some (vR 88), some (vI x)], [vI v], LAY A1 F1, 113, 2248)) hc169 0 rfl trivial ?_
          refine R_s (P := inI (x + 1) ∧ (0 ≤ x + 1 ∧ x + 1 < ((A1 0).length : Int)) ∧ inI (x + 2) ∧ (0 ≤ x + 2 ∧ x + 2 < ((A1 0).length : Int)) ∧ inI (x + 3) ∧ (0 ≤ x + 3 ∧ x + 3 < ((A1 0).length : Int)) ∧ True) (f' := (413, [some (vR 0), some (vR 1), some (vR 88), some (vI x)], [vI (rd (A1 0) (x + 3)), vI (rd (A1 0) (x + 2)), vI (rd (A1 0) (x + 1)), vR 88, vI v], LAY A1 F1, 113, 2248)) hc169 16 rfl ⟨⟨by ((try rw [e1]); omega), by ((try rw [e1]); omega)⟩, ⟨by ((try rw [e1]); omega), by ((try rw [e1]); omega)⟩, ⟨by ((try rw [e1]); omega), by ((try rw [e1]); omega)⟩, ⟨by ((try rw [e1]); omega), by ((try rw [e1]); omega)⟩, ⟨by ((try rw [e1]); omega), by ((try rw [e1]); omega)⟩, ⟨by ((try rw [e1]); omega), by ((try rw [e1]); omega)⟩, trivial⟩ ?_
          (try rw [e1])
          refine R_cv hc169 rfl rfl hM (fun r G9 hp9 => ?_)
          obtain ⟨rfl, A2, F2, rfl, e2, hR2⟩ := hp9
          refine R_s (f' := (416, [some (vR 0), some (vR 1), some (vR 88), some (vI x)], [vI v, vI v], LAY (shA A2) (shF F2), 113, 2248)) hc169 0 rfl trivial ?_
          refine R_ic (t := 1301) hc169 rfl rfl (fun (_ : v = v) => ?_) (fun (z : ¬ (v = v)) => absurd (show v = v by ((try rw [e1]); omega)) z)
          refine R_s (P := inI (x + 5) ∧ True) (f' := (18, [some (vR 0), some (vR 1), some (vR 88), some (vI (x + 5))], [], LAY (shA A2) (shF F2), 113, 2248)) hc169 2 rfl ⟨⟨by ((try rw [e1]); omega), by ((try rw [e1]); omega)⟩, trivial⟩ ?_
          exact ih (j + 1) A2 F2 _ (by push_cast; omega) (by rw [e2]; exact e0) (by push_cast; exact hR2) (by push_cast; omega) (by omega)
        | 7, hio, c2 =>
          cases hio
          refine R_s (f' := (421, [some (vR 0), some (vR 1), some (vR 88), some (vI x)], [], LAY (shA A) (shF F), 113, 2248)) hc169 0 rfl trivial ?_
          refine R_s (P := inI (x + 1) ∧ (0 ≤ x + 1 ∧ x + 1 < ((A 0).length : Int)) ∧ inI (x + 2) ∧ (0 ≤ x + 2 ∧ x + 2 < ((A 0).length : Int)) ∧ True) (f' := (432, [some (vR 0), some (vR 1), some (vR 88), some (vI x)], [vI (rd (A 0) (x + 2)), vI (rd (A 0) (x + 1)), vR 1], LAY (shA A) (shF F), 113, 2248)) hc169 11 rfl ⟨⟨by ((try rw [e1]); omega), by ((try rw [e1]); omega)⟩, ⟨by ((try rw [e1]); omega), by ((try rw [e1]); omega)⟩, ⟨by ((try rw [e1]); omega), by ((try rw [e1]); omega)⟩, ⟨by ((try rw [e1]); omega), by ((try rw [e1]); omega)⟩, trivial⟩ ?_
          refine R_cv hc169 rfl rfl (op_ruin hR (by omega) (rd (A 0) (x + 1)) (rd (A 0) (x + 2)) (rd_in hsc _) (rd_in hsc _)) (fun r G9 hp9 => ?_)
          obtain ⟨⟨v, rfl⟩, ⟨A1, F1, rfl, e1⟩, hM⟩ := hp9
          refine R_s (f' := (435, [some (vR 0), some (vR 1), some (vR 88), some (vI x)], [vI v], LAY A1 F1, 113, 2248)) hc169 0 rfl trivial ?_
          refine R_s (P := inI (x + 1) ∧ (0 ≤ x + 1 ∧ x + 1 < ((A1 0).length : Int)) ∧ inI (x + 2) ∧ (0 ≤ x + 2 ∧ x + 2 < ((A1 0).length : Int)) ∧ True) (f' := (446, [some (vR 0), some (vR 1), some (vR 88), some (vI x)], [vI (rd (A1 0) (x + 2)), vI (rd (A1 0) (x + 1)), vR 88, vI v], LAY A1 F1, 113, 2248)) hc169 11 rfl ⟨⟨by ((try rw [e1]); omega), by ((try rw [e1]); omega)⟩, ⟨by ((try rw [e1]); omega), by ((try rw [e1]); omega)⟩, ⟨by ((try rw [e1]); omega), by ((try rw [e1]); omega)⟩, ⟨by ((try rw [e1]); omega), by ((try rw [e1]); omega)⟩, trivial⟩ ?_
          (try rw [e1])
          refine R_cv hc169 rfl rfl hM (fun r G9 hp9 => ?_)
          obtain ⟨rfl, A2, F2, rfl, e2, hR2⟩ := hp9
          refine R_s (f' := (449, [some (vR 0), some (vR 1), some (vR 88), some (vI x)], [vI v, vI v], LAY (shA A2) (shF F2), 113, 2248)) hc169 0 rfl trivial ?_
          refine R_ic (t := 1301) hc169 rfl rfl (fun (_ : v = v) => ?_) (fun (z : ¬ (v = v)) => absurd (show v = v by ((try rw [e1]); omega)) z)
          refine R_s (P := inI (x + 5) ∧ True) (f' := (18, [some (vR 0), some (vR 1), some (vR 88), some (vI (x + 5))], [], LAY (shA A2) (shF F2), 113, 2248)) hc169 2 rfl ⟨⟨by ((try rw [e1]); omega), by ((try rw [e1]); omega)⟩, trivial⟩ ?_
          exact ih (j + 1) A2 F2 _ (by push_cast; omega) (by rw [e2]; exact e0) (by push_cast; exact hR2) (by push_cast; omega) (by omega)
        | 8, hio, c2 =>
          cases hio
          refine R_s (f' := (454, [some (vR 0), some (vR 1), some (vR 88), some (vI x)], [], LAY (shA A) (shF F), 113, 2248)) hc169 0 rfl trivial ?_
          refine R_s (P := inI (x + 1) ∧ (0 ≤ x + 1 ∧ x + 1 < ((A 0).length : Int)) ∧ inI (x + 2) ∧ (0 ≤ x + 2 ∧ x + 2 < ((A 0).length : Int)) ∧ inI (x + 3) ∧ (0 ≤ x + 3 ∧ x + 3 < ((A 0).length : Int)) ∧ True) (f' := (470, [some (vR 0), some (vR 1), some (vR 88), some (vI x)], [vI (rd (A 0) (x + 3)), vI (rd (A 0) (x + 2)), vI (rd (A 0) (x + 1)), vR 1], LAY (shA A) (shF F), 113, 2248)) hc169 16 rfl ⟨⟨by ((try rw [e1]); omega), by ((try rw [e1]); omega)⟩, ⟨by ((try rw [e1]); omega), by ((try rw [e1]); omega)⟩, ⟨by ((try rw [e1]); omega), by ((try rw [e1]); omega)⟩, ⟨by ((try rw [e1]); omega), by ((try rw [e1]); omega)⟩, ⟨by ((try rw [e1]); omega), by ((try rw [e1]); omega)⟩, ⟨by ((try rw [e1]); omega), by ((try rw [e1]); omega)⟩, trivial⟩ ?_
          refine R_cv hc169 rfl rfl (op_part hR (by omega) (rd (A 0) (x + 1)) (rd (A 0) (x + 2)) (rd (A 0) (x + 3)) (rd_in hsc _) (rd_in hsc _) (rd_in hsc _)) (fun r G9 hp9 => ?_)
          obtain ⟨⟨v, rfl⟩, ⟨A1, F1, rfl, e1⟩, hM⟩ := hp9
          refine R_s (f' := (473, [some (vR 0), some (vR 1), some (vR 88), some (vI x)], [vI v], LAY A1 F1, 113, 2248)) hc169 0 rfl trivial ?_
          refine R_s (P := inI (x + 1) ∧ (0 ≤ x + 1 ∧ x + 1 < ((A1 0).length : Int)) ∧ inI (x + 2) ∧ (0 ≤ x + 2 ∧ x + 2 < ((A1 0).length : Int)) ∧ inI (x + 3) ∧ (0 ≤ x + 3 ∧ x + 3 < ((A1 0).length : Int)) ∧ True) (f' := (489, [some (vR 0), some (vR 1), some (vR 88), some (vI x)], [vI (rd (A1 0) (x + 3)), vI (rd (A1 0) (x + 2)), vI (rd (A1 0) (x + 1)), vR 88, vI v], LAY A1 F1, 113, 2248)) hc169 16 rfl ⟨⟨by ((try rw [e1]); omega), by ((try rw [e1]); omega)⟩, ⟨by ((try rw [e1]); omega), by ((try rw [e1]); omega)⟩, ⟨by ((try rw [e1]); omega), by ((try rw [e1]); omega)⟩, ⟨by ((try rw [e1]); omega), by ((try rw [e1]); omega)⟩, ⟨by ((try rw [e1]); omega), by ((try rw [e1]); omega)⟩, ⟨by ((try rw [e1]); omega), by ((try rw [e1]); omega)⟩, trivial⟩ ?_
          (try rw [e1])
          refine R_cv hc169 rfl rfl hM (fun r G9 hp9 => ?_)
          obtain ⟨rfl, A2, F2, rfl, e2, hR2⟩ := hp9
          refine R_s (f' := (492, [some (vR 0), some (vR 1), some (vR 88), some (vI x)], [vI v, vI v], LAY (shA A2) (shF F2), 113, 2248)) hc169 0 rfl trivial ?_
          refine R_ic (t := 1301) hc169 rfl rfl (fun (_ : v = v) => ?_) (fun (z : ¬ (v = v)) => absurd (show v = v by ((try rw [e1]); omega)) z)
          refine R_s (P := inI (x + 5) ∧ True) (f' := (18, [some (vR 0), some (vR 1), some (vR 88), some (vI (x + 5))], [], LAY (shA A2) (shF F2), 113, 2248)) hc169 2 rfl ⟨⟨by ((try rw [e1]); omega), by ((try rw [e1]); omega)⟩, trivial⟩ ?_
          exact ih (j + 1) A2 F2 _ (by push_cast; omega) (by rw [e2]; exact e0) (by push_cast; exact hR2) (by push_cast; omega) (by omega)
        | 9, hio, c2 =>
          cases hio
          refine R_s (f' := (497, [some (vR 0), some (vR 1), some (vR 88), some (vI x)], [], LAY (shA A) (shF F), 113, 2248)) hc169 0 rfl trivial ?_
          refine R_s (P := inI (x + 1) ∧ (0 ≤ x + 1 ∧ x + 1 < ((A 0).length : Int)) ∧ inI (x + 2) ∧ (0 ≤ x + 2 ∧ x + 2 < ((A 0).length : Int)) ∧ True) (f' := (508, [some (vR 0), some (vR 1), some (vR 88), some (vI x)], [vI (rd (A 0) (x + 2)), vI (rd (A 0) (x + 1)), vR 1], LAY (shA A) (shF F), 113, 2248)) hc169 11 rfl ⟨⟨by ((try rw [e1]); omega), by ((try rw [e1]); omega)⟩, ⟨by ((try rw [e1]); omega), by ((try rw [e1]); omega)⟩, ⟨by ((try rw [e1]); omega), by ((try rw [e1]); omega)⟩, ⟨by ((try rw [e1]); omega), by ((try rw [e1]); omega)⟩, trivial⟩ ?_
          refine R_cv hc169 rfl rfl (op_parts hR (by omega) (rd (A 0) (x + 1)) (rd (A 0) (x + 2)) (rd_in hsc _) (rd_in hsc _)) (fun r G9 hp9 => ?_)
          obtain ⟨⟨v, rfl⟩, ⟨A1, F1, rfl, e1⟩, hM⟩ := hp9
          refine R_s (f' := (511, [some (vR 0), some (vR 1), some (vR 88), some (vI x)], [vI v], LAY A1 F1, 113, 2248)) hc169 0 rfl trivial ?_
          refine R_s (P := inI (x + 1) ∧ (0 ≤ x + 1 ∧ x + 1 < ((A1 0).length : Int)) ∧ inI (x + 2) ∧ (0 ≤ x + 2 ∧ x + 2 < ((A1 0).length : Int)) ∧ True) (f' := (522, [some (vR 0), some (vR 1), some (vR 88), some (vI x)], [vI (rd (A1 0) (x + 2)), vI (rd (A1 0) (x + 1)), vR 88, vI v], LAY A1 F1, 113, 2248)) hc169 11 rfl ⟨⟨by ((try rw [e1]); omega), by ((try rw [e1]); omega)⟩, ⟨by ((try rw [e1]); omega), by ((try rw [e1]); omega)⟩, ⟨by ((try rw [e1]); omega), by ((try rw [e1]); omega)⟩, ⟨by ((try rw [e1]); omega), by ((try rw [e1]); omega)⟩, trivial⟩ ?_
          (try rw [e1])
          refine R_cv hc169 rfl rfl hM (fun r G9 hp9 => ?_)
          obtain ⟨rfl, A2, F2, rfl, e2, hR2⟩ := hp9
          refine R_s (f' := (525, [some (vR 0), some (vR 1), some (vR 88), some (vI x)], [vI v, vI v], LAY (shA A2) (shF F2), 113, 2248)) hc169 0 rfl trivial ?_
          refine R_ic (t := 1301) hc169 rfl rfl (fun (_ : v = v) => ?_) (fun (z : ¬ (v = v)) => absurd (show v = v by ((try rw [e1]); omega)) z)
          refine R_s (P := inI (x + 5) ∧ True) (f' := (18, [some (vR 0), some (vR 1), some (vR 88), some (vI (x + 5))], [], LAY (shA A2) (shF F2), 113, 2248)) hc169 2 rfl ⟨⟨by ((try rw [e1]); omega), by ((try rw [e1]); omega)⟩, trivial⟩ ?_
          exact ih (j + 1) A2 F2 _ (by push_cast; omega) (by rw [e2]; exact e0) (by push_cast; exact hR2) (by push_cast; omega) (by omega)
        | 10, hio, c2 =>
          cases hio
          refine R_s (f' := (530, [some (vR 0), some (vR 1), some (vR 88), some (vI x)], [], LAY (shA A) (shF F), 113, 2248)) hc169 0 rfl trivial ?_
          refine R_s (P := inI (x + 1) ∧ (0 ≤ x + 1 ∧ x + 1 < ((A 0).length : Int)) ∧ inI (x + 2) ∧ (0 ≤ x + 2 ∧ x + 2 < ((A 0).length : Int)) ∧ True) (f' := (541, [some (vR 0), some (vR 1), some (vR 88), some (vI x)], [vI (rd (A 0) (x + 2)), vI (rd (A 0) (x + 1)), vR 1], LAY (shA A) (shF F), 113, 2248)) hc169 11 rfl ⟨⟨by ((try rw [e1]); omega), by ((try rw [e1]); omega)⟩, ⟨by ((try rw [e1]); omega), by ((try rw [e1]); omega)⟩, ⟨by ((try rw [e1]); omega), by ((try rw [e1]); omega)⟩, ⟨by ((try rw [e1]); omega), by ((try rw [e1]); omega)⟩, trivial⟩ ?_
          refine R_cv hc169 rfl rfl (op_feed hR (by omega) (rd (A 0) (x + 1)) (rd (A 0) (x + 2)) (rd_in hsc _) (rd_in hsc _)) (fun r G9 hp9 => ?_)
          obtain ⟨⟨v, rfl⟩, ⟨A1, F1, rfl, e1⟩, hM⟩ := hp9
          refine R_s (f' := (544, [some (vR 0), some (vR 1), some (vR 88), some (vI x)], [vI v], LAY A1 F1, 113, 2248)) hc169 0 rfl trivial ?_
          refine R_s (P := inI (x + 1) ∧ (0 ≤ x + 1 ∧ x + 1 < ((A1 0).length : Int)) ∧ inI (x + 2) ∧ (0 ≤ x + 2 ∧ x + 2 < ((A1 0).length : Int)) ∧ True) (f' := (555, [some (vR 0), some (vR 1), some (vR 88), some (vI x)], [vI (rd (A1 0) (x + 2)), vI (rd (A1 0) (x + 1)), vR 88, vI v], LAY A1 F1, 113, 2248)) hc169 11 rfl ⟨⟨by ((try rw [e1]); omega), by ((try rw [e1]); omega)⟩, ⟨by ((try rw [e1]); omega), by ((try rw [e1]); omega)⟩, ⟨by ((try rw [e1]); omega), by ((try rw [e1]); omega)⟩, ⟨by ((try rw [e1]); omega), by ((try rw [e1]); omega)⟩, trivial⟩ ?_
          (try rw [e1])
          refine R_cv hc169 rfl rfl hM (fun r G9 hp9 => ?_)
          obtain ⟨rfl, A2, F2, rfl, e2, hR2⟩ := hp9
          refine R_s (f' := (558, [some (vR 0), some (vR 1), some (vR 88), some (vI x)], [vI v, vI v], LAY (shA A2) (shF F2), 113, 2248)) hc169 0 rfl trivial ?_
          refine R_ic (t := 1301) hc169 rfl rfl (fun (_ : v = v) => ?_) (fun (z : ¬ (v = v)) => absurd (show v = v by ((try rw [e1]); omega)) z)
          refine R_s (P := inI (x + 5) ∧ True) (f' := (18, [some (vR 0), some (vR 1), some (vR 88), some (vI (x + 5))], [], LAY (shA A2) (shF F2), 113, 2248)) hc169 2 rfl ⟨⟨by ((try rw [e1]); omega), by ((try rw [e1]); omega)⟩, trivial⟩ ?_
          exact ih (j + 1) A2 F2 _ (by push_cast; omega) (by rw [e2]; exact e0) (by push_cast; exact hR2) (by push_cast; omega) (by omega)
        | 11, hio, c2 =>
          cases hio
          refine R_s (f' := (563, [some (vR 0), some (vR 1), some (vR 88), some (vI x)], [], LAY (shA A) (shF F), 113, 2248)) hc169 0 rfl trivial ?_
          refine R_s (P := True) (f' := (564, [some (vR 0), some (vR 1), some (vR 88), some (vI x)], [vR 1], LAY (shA A) (shF F), 113, 2248)) hc169 1 rfl trivial ?_
          refine R_cv hc169 rfl rfl (op_wipe hR (by omega)  ) (fun r G9 hp9 => ?_)
          obtain ⟨⟨v, rfl⟩, ⟨A1, F1, rfl, e1⟩, hM⟩ := hp9
          refine R_s (f' := (567, [some (vR 0), some (vR 1), some (vR 88), some (vI x)], [vI v], LAY A1 F1, 113, 2248)) hc169 0 rfl trivial ?_
          refine R_s (P := True) (f' := (568, [some (vR 0), some (vR 1), some (vR 88), some (vI x)], [vR 88, vI v], LAY A1 F1, 113, 2248)) hc169 1 rfl trivial ?_
          (try rw [e1])
          refine R_cv hc169 rfl rfl hM (fun r G9 hp9 => ?_)
          obtain ⟨rfl, A2, F2, rfl, e2, hR2⟩ := hp9
          refine R_s (f' := (571, [some (vR 0), some (vR 1), some (vR 88), some (vI x)], [vI v, vI v], LAY (shA A2) (shF F2), 113, 2248)) hc169 0 rfl trivial ?_
          refine R_ic (t := 1301) hc169 rfl rfl (fun (_ : v = v) => ?_) (fun (z : ¬ (v = v)) => absurd (show v = v by ((try rw [e1]); omega)) z)
          refine R_s (P := inI (x + 5) ∧ True) (f' := (18, [some (vR 0), some (vR 1), some (vR 88), some (vI (x + 5))], [], LAY (shA A2) (shF F2), 113, 2248)) hc169 2 rfl ⟨⟨by ((try rw [e1]); omega), by ((try rw [e1]); omega)⟩, trivial⟩ ?_
          exact ih (j + 1) A2 F2 _ (by push_cast; omega) (by rw [e2]; exact e0) (by push_cast; exact hR2) (by push_cast; omega) (by omega)
        | 12, hio, c2 =>
          cases hio
          refine R_s (f' := (576, [some (vR 0), some (vR 1), some (vR 88), some (vI x)], [], LAY (shA A) (shF F), 113, 2248)) hc169 0 rfl trivial ?_
          refine R_s (P := True) (f' := (577, [some (vR 0), some (vR 1), some (vR 88), some (vI x)], [vR 1], LAY (shA A) (shF F), 113, 2248)) hc169 1 rfl trivial ?_
          refine R_cv hc169 rfl rfl (op_deed hR (by omega)  ) (fun r G9 hp9 => ?_)
          obtain ⟨⟨v, rfl⟩, ⟨A1, F1, rfl, e1⟩, hM⟩ := hp9
          refine R_s (f' := (580, [some (vR 0), some (vR 1), some (vR 88), some (vI x)], [vI v], LAY A1 F1, 113, 2248)) hc169 0 rfl trivial ?_
          refine R_s (P := True) (f' := (581, [some (vR 0), some (vR 1), some (vR 88), some (vI x)], [vR 88, vI v], LAY A1 F1, 113, 2248)) hc169 1 rfl trivial ?_
          (try rw [e1])
          refine R_cv hc169 rfl rfl hM (fun r G9 hp9 => ?_)
          obtain ⟨rfl, A2, F2, rfl, e2, hR2⟩ := hp9
          refine R_s (f' := (584, [some (vR 0), some (vR 1), some (vR 88), some (vI x)], [vI v, vI v], LAY (shA A2) (shF F2), 113, 2248)) hc169 0 rfl trivial ?_
          refine R_ic (t := 1301) hc169 rfl rfl (fun (_ : v = v) => ?_) (fun (z : ¬ (v = v)) => absurd (show v = v by ((try rw [e1]); omega)) z)
          refine R_s (P := inI (x + 5) ∧ True) (f' := (18, [some (vR 0), some (vR 1), some (vR 88), some (vI (x + 5))], [], LAY (shA A2) (shF F2), 113, 2248)) hc169 2 rfl ⟨⟨by ((try rw [e1]); omega), by ((try rw [e1]); omega)⟩, trivial⟩ ?_
          exact ih (j + 1) A2 F2 _ (by push_cast; omega) (by rw [e2]; exact e0) (by push_cast; exact hR2) (by push_cast; omega) (by omega)
        | 13, hio, c2 =>
          cases hio
          refine R_s (f' := (589, [some (vR 0), some (vR 1), some (vR 88), some (vI x)], [], LAY (shA A) (shF F), 113, 2248)) hc169 0 rfl trivial ?_
          refine R_s (P := inI (x + 1) ∧ (0 ≤ x + 1 ∧ x + 1 < ((A 0).length : Int)) ∧ inI (x + 2) ∧ (0 ≤ x + 2 ∧ x + 2 < ((A 0).length : Int)) ∧ inI (x + 3) ∧ (0 ≤ x + 3 ∧ x + 3 < ((A 0).length : Int)) ∧ True) (f' := (605, [some (vR 0), some (vR 1), some (vR 88), some (vI x)], [vI (rd (A 0) (x + 3)), vI (rd (A 0) (x + 2)), vI (rd (A 0) (x + 1)), vR 1], LAY (shA A) (shF F), 113, 2248)) hc169 16 rfl ⟨⟨by ((try rw [e1]); omega), by ((try rw [e1]); omega)⟩, ⟨by ((try rw [e1]); omega), by ((try rw [e1]); omega)⟩, ⟨by ((try rw [e1]); omega), by ((try rw [e1]); omega)⟩, ⟨by ((try rw [e1]); omega), by ((try rw [e1]); omega)⟩, ⟨by ((try rw [e1]); omega), by ((try rw [e1]); omega)⟩, ⟨by ((try rw [e1]); omega), by ((try rw [e1]); omega)⟩, trivial⟩ ?_
          refine R_cv hc169 rfl rfl (op_end hR (by omega) (rd (A 0) (x + 1)) (rd (A 0) (x + 2)) (rd (A 0) (x + 3)) (rd_in hsc _) (rd_in hsc _) (rd_in hsc _)) (fun r G9 hp9 => ?_)
          obtain ⟨⟨v, rfl⟩, ⟨A1, F1, rfl, e1⟩, hM⟩ := hp9
          refine R_s (f' := (608, [some (vR 0), some (vR 1), some (vR 88), some (vI x)], [vI v], LAY A1 F1, 113, 2248)) hc169 0 rfl trivial ?_
          refine R_s (P := inI (x + 1) ∧ (0 ≤ x + 1 ∧ x + 1 < ((A1 0).length : Int)) ∧ inI (x + 2) ∧ (0 ≤ x + 2 ∧ x + 2 < ((A1 0).length : Int)) ∧ inI (x + 3) ∧ (0 ≤ x + 3 ∧ x + 3 < ((A1 0).length : Int)) ∧ True) (f' := (624, [some (vR 0), some (vR 1), some (vR 88), some (vI x)], [vI (rd (A1 0) (x + 3)), vI (rd (A1 0) (x + 2)), vI (rd (A1 0) (x + 1)), vR 88, vI v], LAY A1 F1, 113, 2248)) hc169 16 rfl ⟨⟨by ((try rw [e1]); omega), by ((try rw [e1]); omega)⟩, ⟨by ((try rw [e1]); omega), by ((try rw [e1]); omega)⟩, ⟨by ((try rw [e1]); omega), by ((try rw [e1]); omega)⟩, ⟨by ((try rw [e1]); omega), by ((try rw [e1]); omega)⟩, ⟨by ((try rw [e1]); omega), by ((try rw [e1]); omega)⟩, ⟨by ((try rw [e1]); omega), by ((try rw [e1]); omega)⟩, trivial⟩ ?_
          (try rw [e1])
          refine R_cv hc169 rfl rfl hM (fun r G9 hp9 => ?_)
          obtain ⟨rfl, A2, F2, rfl, e2, hR2⟩ := hp9
          refine R_s (f' := (627, [some (vR 0), some (vR 1), some (vR 88), some (vI x)], [vI v, vI v], LAY (shA A2) (shF F2), 113, 2248)) hc169 0 rfl trivial ?_
          refine R_ic (t := 1301) hc169 rfl rfl (fun (_ : v = v) => ?_) (fun (z : ¬ (v = v)) => absurd (show v = v by ((try rw [e1]); omega)) z)
          refine R_s (P := inI (x + 5) ∧ True) (f' := (18, [some (vR 0), some (vR 1), some (vR 88), some (vI (x + 5))], [], LAY (shA A2) (shF F2), 113, 2248)) hc169 2 rfl ⟨⟨by ((try rw [e1]); omega), by ((try rw [e1]); omega)⟩, trivial⟩ ?_
          exact ih (j + 1) A2 F2 _ (by push_cast; omega) (by rw [e2]; exact e0) (by push_cast; exact hR2) (by push_cast; omega) (by omega)
        | 14, hio, c2 =>
          cases hio
          refine R_s (f' := (632, [some (vR 0), some (vR 1), some (vR 88), some (vI x)], [], LAY (shA A) (shF F), 113, 2248)) hc169 0 rfl trivial ?_
          refine R_s (P := inI (x + 1) ∧ (0 ≤ x + 1 ∧ x + 1 < ((A 0).length : Int)) ∧ True) (f' := (638, [some (vR 0), some (vR 1), some (vR 88), some (vI x)], [vI (rd (A 0) (x + 1)), vR 1], LAY (shA A) (shF F), 113, 2248)) hc169 6 rfl ⟨⟨by ((try rw [e1]); omega), by ((try rw [e1]); omega)⟩, ⟨by ((try rw [e1]); omega), by ((try rw [e1]); omega)⟩, trivial⟩ ?_
          refine R_cv hc169 rfl rfl (op_yields hR (by omega) (rd (A 0) (x + 1)) (rd_in hsc _)) (fun r G9 hp9 => ?_)
          obtain ⟨⟨v, rfl⟩, ⟨A1, F1, rfl, e1⟩, hM⟩ := hp9
          refine R_s (f' := (641, [some (vR 0), some (vR 1), some (vR 88), some (vI x)], [vI v], LAY A1 F1, 113, 2248)) hc169 0 rfl trivial ?_
          refine R_s (P := inI (x + 1) ∧ (0 ≤ x + 1 ∧ x + 1 < ((A1 0).length : Int)) ∧ True) (f' := (647, [some (vR 0), some (vR 1), some (vR 88), some (vI x)], [vI (rd (A1 0) (x + 1)), vR 88, vI v], LAY A1 F1, 113, 2248)) hc169 6 rfl ⟨⟨by ((try rw [e1]); omega), by ((try rw [e1]); omega)⟩, ⟨by ((try rw [e1]); omega), by ((try rw [e1]); omega)⟩, trivial⟩ ?_
          (try rw [e1])
          refine R_cv hc169 rfl rfl hM (fun r G9 hp9 => ?_)
          obtain ⟨rfl, A2, F2, rfl, e2, hR2⟩ := hp9
          refine R_s (f' := (650, [some (vR 0), some (vR 1), some (vR 88), some (vI x)], [vI v, vI v], LAY (shA A2) (shF F2), 113, 2248)) hc169 0 rfl trivial ?_
          refine R_ic (t := 1301) hc169 rfl rfl (fun (_ : v = v) => ?_) (fun (z : ¬ (v = v)) => absurd (show v = v by ((try rw [e1]); omega)) z)
          refine R_s (P := inI (x + 5) ∧ True) (f' := (18, [some (vR 0), some (vR 1), some (vR 88), some (vI (x + 5))], [], LAY (shA A2) (shF F2), 113, 2248)) hc169 2 rfl ⟨⟨by ((try rw [e1]); omega), by ((try rw [e1]); omega)⟩, trivial⟩ ?_
          exact ih (j + 1) A2 F2 _ (by push_cast; omega) (by rw [e2]; exact e0) (by push_cast; exact hR2) (by push_cast; omega) (by omega)
        | 15, hio, c2 =>
          cases hio
          refine R_s (f' := (655, [some (vR 0), some (vR 1), some (vR 88), some (vI x)], [], LAY (shA A) (shF F), 113, 2248)) hc169 0 rfl trivial ?_
          refine R_s (P := inI (x + 1) ∧ (0 ≤ x + 1 ∧ x + 1 < ((A 0).length : Int)) ∧ True) (f' := (661, [some (vR 0), some (vR 1), some (vR 88), some (vI x)], [vI (rd (A 0) (x + 1)), vR 1], LAY (shA A) (shF F), 113, 2248)) hc169 6 rfl ⟨⟨by ((try rw [e1]); omega), by ((try rw [e1]); omega)⟩, ⟨by ((try rw [e1]); omega), by ((try rw [e1]); omega)⟩, trivial⟩ ?_
          refine R_cv hc169 rfl rfl (op_manager hR (by omega) (rd (A 0) (x + 1)) (rd_in hsc _)) (fun r G9 hp9 => ?_)
          obtain ⟨⟨v, rfl⟩, ⟨A1, F1, rfl, e1⟩, hM⟩ := hp9
          refine R_s (f' := (664, [some (vR 0), some (vR 1), some (vR 88), some (vI x)], [vI v], LAY A1 F1, 113, 2248)) hc169 0 rfl trivial ?_
          refine R_s (P := inI (x + 1) ∧ (0 ≤ x + 1 ∧ x + 1 < ((A1 0).length : Int)) ∧ True) (f' := (670, [some (vR 0), some (vR 1), some (vR 88), some (vI x)], [vI (rd (A1 0) (x + 1)), vR 88, vI v], LAY A1 F1, 113, 2248)) hc169 6 rfl ⟨⟨by ((try rw [e1]); omega), by ((try rw [e1]); omega)⟩, ⟨by ((try rw [e1]); omega), by ((try rw [e1]); omega)⟩, trivial⟩ ?_
          (try rw [e1])
          refine R_cv hc169 rfl rfl hM (fun r G9 hp9 => ?_)
          obtain ⟨rfl, A2, F2, rfl, e2, hR2⟩ := hp9
          refine R_s (f' := (673, [some (vR 0), some (vR 1), some (vR 88), some (vI x)], [vI v, vI v], LAY (shA A2) (shF F2), 113, 2248)) hc169 0 rfl trivial ?_
          refine R_ic (t := 1301) hc169 rfl rfl (fun (_ : v = v) => ?_) (fun (z : ¬ (v = v)) => absurd (show v = v by ((try rw [e1]); omega)) z)
          refine R_s (P := inI (x + 5) ∧ True) (f' := (18, [some (vR 0), some (vR 1), some (vR 88), some (vI (x + 5))], [], LAY (shA A2) (shF F2), 113, 2248)) hc169 2 rfl ⟨⟨by ((try rw [e1]); omega), by ((try rw [e1]); omega)⟩, trivial⟩ ?_
          exact ih (j + 1) A2 F2 _ (by push_cast; omega) (by rw [e2]; exact e0) (by push_cast; exact hR2) (by push_cast; omega) (by omega)
        | 16, hio, c2 =>
          cases hio
          refine R_s (f' := (678, [some (vR 0), some (vR 1), some (vR 88), some (vI x)], [], LAY (shA A) (shF F), 113, 2248)) hc169 0 rfl trivial ?_
          refine R_s (P := inI (x + 1) ∧ (0 ≤ x + 1 ∧ x + 1 < ((A 0).length : Int)) ∧ True) (f' := (684, [some (vR 0), some (vR 1), some (vR 88), some (vI x)], [vI (rd (A 0) (x + 1)), vR 1], LAY (shA A) (shF F), 113, 2248)) hc169 6 rfl ⟨⟨by ((try rw [e1]); omega), by ((try rw [e1]); omega)⟩, ⟨by ((try rw [e1]); omega), by ((try rw [e1]); omega)⟩, trivial⟩ ?_
          refine R_cv hc169 rfl rfl (op_left hR (by omega) (rd (A 0) (x + 1)) (rd_in hsc _)) (fun r G9 hp9 => ?_)
          obtain ⟨⟨v, rfl⟩, ⟨A1, F1, rfl, e1⟩, hM⟩ := hp9
          refine R_s (f' := (687, [some (vR 0), some (vR 1), some (vR 88), some (vI x)], [vI v], LAY A1 F1, 113, 2248)) hc169 0 rfl trivial ?_
          refine R_s (P := inI (x + 1) ∧ (0 ≤ x + 1 ∧ x + 1 < ((A1 0).length : Int)) ∧ True) (f' := (693, [some (vR 0), some (vR 1), some (vR 88), some (vI x)], [vI (rd (A1 0) (x + 1)), vR 88, vI v], LAY A1 F1, 113, 2248)) hc169 6 rfl ⟨⟨by ((try rw [e1]); omega), by ((try rw [e1]); omega)⟩, ⟨by ((try rw [e1]); omega), by ((try rw [e1]); omega)⟩, trivial⟩ ?_
          (try rw [e1])
          refine R_cv hc169 rfl rfl hM (fun r G9 hp9 => ?_)
          obtain ⟨rfl, A2, F2, rfl, e2, hR2⟩ := hp9
          refine R_s (f' := (696, [some (vR 0), some (vR 1), some (vR 88), some (vI x)], [vI v, vI v], LAY (shA A2) (shF F2), 113, 2248)) hc169 0 rfl trivial ?_
          refine R_ic (t := 1301) hc169 rfl rfl (fun (_ : v = v) => ?_) (fun (z : ¬ (v = v)) => absurd (show v = v by ((try rw [e1]); omega)) z)
          refine R_s (P := inI (x + 5) ∧ True) (f' := (18, [some (vR 0), some (vR 1), some (vR 88), some (vI (x + 5))], [], LAY (shA A2) (shF F2), 113, 2248)) hc169 2 rfl ⟨⟨by ((try rw [e1]); omega), by ((try rw [e1]); omega)⟩, trivial⟩ ?_
          exact ih (j + 1) A2 F2 _ (by push_cast; omega) (by rw [e2]; exact e0) (by push_cast; exact hR2) (by push_cast; omega) (by omega)
        | 17, hio, c2 =>
          cases hio
          refine R_s (f' := (701, [some (vR 0), some (vR 1), some (vR 88), some (vI x)], [], LAY (shA A) (shF F), 113, 2248)) hc169 0 rfl trivial ?_
          refine R_s (P := inI (x + 1) ∧ (0 ≤ x + 1 ∧ x + 1 < ((A 0).length : Int)) ∧ inI (x + 2) ∧ (0 ≤ x + 2 ∧ x + 2 < ((A 0).length : Int)) ∧ True) (f' := (712, [some (vR 0), some (vR 1), some (vR 88), some (vI x)], [vI (rd (A 0) (x + 2)), vI (rd (A 0) (x + 1)), vR 1], LAY (shA A) (shF F), 113, 2248)) hc169 11 rfl ⟨⟨by ((try rw [e1]); omega), by ((try rw [e1]); omega)⟩, ⟨by ((try rw [e1]); omega), by ((try rw [e1]); omega)⟩, ⟨by ((try rw [e1]); omega), by ((try rw [e1]); omega)⟩, ⟨by ((try rw [e1]); omega), by ((try rw [e1]); omega)⟩, trivial⟩ ?_
          refine R_cv hc169 rfl rfl (op_gets hR (by omega) (rd (A 0) (x + 1)) (rd (A 0) (x + 2)) (rd_in hsc _) (rd_in hsc _)) (fun r G9 hp9 => ?_)
          obtain ⟨⟨v, rfl⟩, ⟨A1, F1, rfl, e1⟩, hM⟩ := hp9
          refine R_s (f' := (715, [some (vR 0), some (vR 1), some (vR 88), some (vI x)], [vI v], LAY A1 F1, 113, 2248)) hc169 0 rfl trivial ?_
          refine R_s (P := inI (x + 1) ∧ (0 ≤ x + 1 ∧ x + 1 < ((A1 0).length : Int)) ∧ inI (x + 2) ∧ (0 ≤ x + 2 ∧ x + 2 < ((A1 0).length : Int)) ∧ True) (f' := (726, [some (vR 0), some (vR 1), some (vR 88), some (vI x)], [vI (rd (A1 0) (x + 2)), vI (rd (A1 0) (x + 1)), vR 88, vI v], LAY A1 F1, 113, 2248)) hc169 11 rfl ⟨⟨by ((try rw [e1]); omega), by ((try rw [e1]); omega)⟩, ⟨by ((try rw [e1]); omega), by ((try rw [e1]); omega)⟩, ⟨by ((try rw [e1]); omega), by ((try rw [e1]); omega)⟩, ⟨by ((try rw [e1]); omega), by ((try rw [e1]); omega)⟩, trivial⟩ ?_
          (try rw [e1])
          refine R_cv hc169 rfl rfl hM (fun r G9 hp9 => ?_)
          obtain ⟨rfl, A2, F2, rfl, e2, hR2⟩ := hp9
          refine R_s (f' := (729, [some (vR 0), some (vR 1), some (vR 88), some (vI x)], [vI v, vI v], LAY (shA A2) (shF F2), 113, 2248)) hc169 0 rfl trivial ?_
          refine R_ic (t := 1301) hc169 rfl rfl (fun (_ : v = v) => ?_) (fun (z : ¬ (v = v)) => absurd (show v = v by ((try rw [e1]); omega)) z)
          refine R_s (P := inI (x + 5) ∧ True) (f' := (18, [some (vR 0), some (vR 1), some (vR 88), some (vI (x + 5))], [], LAY (shA A2) (shF F2), 113, 2248)) hc169 2 rfl ⟨⟨by ((try rw [e1]); omega), by ((try rw [e1]); omega)⟩, trivial⟩ ?_
          exact ih (j + 1) A2 F2 _ (by push_cast; omega) (by rw [e2]; exact e0) (by push_cast; exact hR2) (by push_cast; omega) (by omega)
        | 18, hio, c2 =>
          cases hio
          refine R_s (f' := (734, [some (vR 0), some (vR 1), some (vR 88), some (vI x)], [], LAY (shA A) (shF F), 113, 2248)) hc169 0 rfl trivial ?_
          refine R_s (P := inI (x + 1) ∧ (0 ≤ x + 1 ∧ x + 1 < ((A 0).length : Int)) ∧ inI (x + 2) ∧ (0 ≤ x + 2 ∧ x + 2 < ((A 0).length : Int)) ∧ True) (f' := (745, [some (vR 0), some (vR 1), some (vR 88), some (vI x)], [vI (rd (A 0) (x + 2)), vI (rd (A 0) (x + 1)), vR 1], LAY (shA A) (shF F), 113, 2248)) hc169 11 rfl ⟨⟨by ((try rw [e1]); omega), by ((try rw [e1]); omega)⟩, ⟨by ((try rw [e1]); omega), by ((try rw [e1]); omega)⟩, ⟨by ((try rw [e1]); omega), by ((try rw [e1]); omega)⟩, ⟨by ((try rw [e1]); omega), by ((try rw [e1]); omega)⟩, trivial⟩ ?_
          refine R_cv hc169 rfl rfl (op_due hR (by omega) (rd (A 0) (x + 1)) (rd (A 0) (x + 2)) (rd_in hsc _) (rd_in hsc _)) (fun r G9 hp9 => ?_)
          obtain ⟨⟨v, rfl⟩, ⟨A1, F1, rfl, e1⟩, hM⟩ := hp9
          refine R_s (f' := (748, [some (vR 0), some (vR 1), some (vR 88), some (vI x)], [vI v], LAY A1 F1, 113, 2248)) hc169 0 rfl trivial ?_
          refine R_s (P := inI (x + 1) ∧ (0 ≤ x + 1 ∧ x + 1 < ((A1 0).length : Int)) ∧ inI (x + 2) ∧ (0 ≤ x + 2 ∧ x + 2 < ((A1 0).length : Int)) ∧ True) (f' := (759, [some (vR 0), some (vR 1), some (vR 88), some (vI x)], [vI (rd (A1 0) (x + 2)), vI (rd (A1 0) (x + 1)), vR 88, vI v], LAY A1 F1, 113, 2248)) hc169 11 rfl ⟨⟨by ((try rw [e1]); omega), by ((try rw [e1]); omega)⟩, ⟨by ((try rw [e1]); omega), by ((try rw [e1]); omega)⟩, ⟨by ((try rw [e1]); omega), by ((try rw [e1]); omega)⟩, ⟨by ((try rw [e1]); omega), by ((try rw [e1]); omega)⟩, trivial⟩ ?_
          (try rw [e1])
          refine R_cv hc169 rfl rfl hM (fun r G9 hp9 => ?_)
          obtain ⟨rfl, A2, F2, rfl, e2, hR2⟩ := hp9
          refine R_s (f' := (762, [some (vR 0), some (vR 1), some (vR 88), some (vI x)], [vI v, vI v], LAY (shA A2) (shF F2), 113, 2248)) hc169 0 rfl trivial ?_
          refine R_ic (t := 1301) hc169 rfl rfl (fun (_ : v = v) => ?_) (fun (z : ¬ (v = v)) => absurd (show v = v by ((try rw [e1]); omega)) z)
          refine R_s (P := inI (x + 5) ∧ True) (f' := (18, [some (vR 0), some (vR 1), some (vR 88), some (vI (x + 5))], [], LAY (shA A2) (shF F2), 113, 2248)) hc169 2 rfl ⟨⟨by ((try rw [e1]); omega), by ((try rw [e1]); omega)⟩, trivial⟩ ?_
          exact ih (j + 1) A2 F2 _ (by push_cast; omega) (by rw [e2]; exact e0) (by push_cast; exact hR2) (by push_cast; omega) (by omega)
        | 19, hio, c2 =>
          cases hio
          refine R_s (f' := (767, [some (vR 0), some (vR 1), some (vR 88), some (vI x)], [], LAY (shA A) (shF F), 113, 2248)) hc169 0 rfl trivial ?_
          refine R_s (P := inI (x + 1) ∧ (0 ≤ x + 1 ∧ x + 1 < ((A 0).length : Int)) ∧ inI (x + 2) ∧ (0 ≤ x + 2 ∧ x + 2 < ((A 0).length : Int)) ∧ inI (x + 3) ∧ (0 ≤ x + 3 ∧ x + 3 < ((A 0).length : Int)) ∧ inI (x + 4) ∧ (0 ≤ x + 4 ∧ x + 4 < ((A 0).length : Int)) ∧ True) (f' := (788, [some (vR 0), some (vR 1), some (vR 88), some (vI x)], [vI (rd (A 0) (x + 4)), vI (rd (A 0) (x + 3)), vI (rd (A 0) (x + 2)), vI (rd (A 0) (x + 1)), vR 1], LAY (shA A) (shF F), 113, 2248)) hc169 21 rfl ⟨⟨by ((try rw [e1]); omega), by ((try rw [e1]); omega)⟩, ⟨by ((try rw [e1]); omega), by ((try rw [e1]); omega)⟩, ⟨by ((try rw [e1]); omega), by ((try rw [e1]); omega)⟩, ⟨by ((try rw [e1]); omega), by ((try rw [e1]); omega)⟩, ⟨by ((try rw [e1]); omega), by ((try rw [e1]); omega)⟩, ⟨by ((try rw [e1]); omega), by ((try rw [e1]); omega)⟩, ⟨by ((try rw [e1]); omega), by ((try rw [e1]); omega)⟩, ⟨by ((try rw [e1]); omega), by ((try rw [e1]); omega)⟩, trivial⟩ ?_
          refine R_if (t := 795) hc169 rfl rfl (fun (c22 : rd (A 0) (x + 4) = 0) => ?_) (fun (c22 : ¬ (rd (A 0) (x + 4) = 0)) => ?_)
          · refine R_s (P := True) (f' := (796, [some (vR 0), some (vR 1), some (vR 88), some (vI x)], [vI 0, vI (rd (A 0) (x + 3)), vI (rd (A 0) (x + 2)), vI (rd (A 0) (x + 1)), vR 1], LAY (shA A) (shF F), 113, 2248)) hc169 1 rfl trivial ?_
            refine R_cv hc169 rfl rfl (op_share hR (by omega) (rd (A 0) (x + 1)) (rd (A 0) (x + 2)) (rd (A 0) (x + 3)) (0) (rd_in hsc _) (rd_in hsc _) (rd_in hsc _) ⟨by decide, by decide⟩ (.inl rfl)) (fun r G9 hp9 => ?_)
            obtain ⟨⟨v, rfl⟩, ⟨A1, F1, rfl, e1⟩, hM⟩ := hp9
            refine R_s (f' := (799, [some (vR 0), some (vR 1), some (vR 88), some (vI x)], [vJ v], LAY A1 F1, 113, 2248)) hc169 0 rfl trivial ?_
            refine R_s (P := inI (x + 1) ∧ (0 ≤ x + 1 ∧ x + 1 < ((A1 0).length : Int)) ∧ inI (x + 2) ∧ (0 ≤ x + 2 ∧ x + 2 < ((A1 0).length : Int)) ∧ inI (x + 3) ∧ (0 ≤ x + 3 ∧ x + 3 < ((A1 0).length : Int)) ∧ inI (x + 4) ∧ (0 ≤ x + 4 ∧ x + 4 < ((A1 0).length : Int)) ∧ True) (f' := (820, [some (vR 0), some (vR 1), some (vR 88), some (vI x)], [vI (rd (A1 0) (x + 4)), vI (rd (A1 0) (x + 3)), vI (rd (A1 0) (x + 2)), vI (rd (A1 0) (x + 1)), vR 88, vJ v], LAY A1 F1, 113, 2248)) hc169 21 rfl ⟨⟨by ((try rw [e1]); omega), by ((try rw [e1]); omega)⟩, ⟨by ((try rw [e1]); omega), by ((try rw [e1]); omega)⟩, ⟨by ((try rw [e1]); omega), by ((try rw [e1]); omega)⟩, ⟨by ((try rw [e1]); omega), by ((try rw [e1]); omega)⟩, ⟨by ((try rw [e1]); omega), by ((try rw [e1]); omega)⟩, ⟨by ((try rw [e1]); omega), by ((try rw [e1]); omega)⟩, ⟨by ((try rw [e1]); omega), by ((try rw [e1]); omega)⟩, ⟨by ((try rw [e1]); omega), by ((try rw [e1]); omega)⟩, trivial⟩ ?_
            refine R_if (t := 827) hc169 rfl rfl (fun (_ : rd (A1 0) (x + 4) = 0) => ?_) (fun (z : ¬ (rd (A1 0) (x + 4) = 0)) => absurd (show rd (A1 0) (x + 4) = 0 by ((try rw [e1]); omega)) z)
            refine R_s (P := True) (f' := (828, [some (vR 0), some (vR 1), some (vR 88), some (vI x)], [vI 0, vI (rd (A1 0) (x + 3)), vI (rd (A1 0) (x + 2)), vI (rd (A1 0) (x + 1)), vR 88, vJ v], LAY A1 F1, 113, 2248)) hc169 1 rfl trivial ?_
            (try rw [e1])
            refine R_cv hc169 rfl rfl hM (fun r G9 hp9 => ?_)
            obtain ⟨rfl, A2, F2, rfl, e2, hR2⟩ := hp9
            refine R_s (f' := (831, [some (vR 0), some (vR 1), some (vR 88), some (vI x)], [vJ v, vJ v], LAY (shA A2) (shF F2), 113, 2248)) hc169 0 rfl trivial ?_
            refine R_s (P := True) (f' := (832, [some (vR 0), some (vR 1), some (vR 88), some (vI x)], [vI (if v < v then 1 else if v = v then 0 else -1)], LAY (shA A2) (shF F2), 113, 2248)) hc169 1 rfl trivial ?_
            refine R_if (t := 1301) hc169 rfl rfl (fun (c24 : (if v < v then 1 else if v = v then 0 else -1) = 0) => ?_) (fun (c24 : ¬ ((if v < v then 1 else if v = v then 0 else -1) = 0)) => ?_)
            · rw [lcm_eq] at c24
              refine R_s (P := inI (x + 5) ∧ True) (f' := (18, [some (vR 0), some (vR 1), some (vR 88), some (vI (x + 5))], [], LAY (shA A2) (shF F2), 113, 2248)) hc169 2 rfl ⟨⟨by ((try rw [e1]); omega), by ((try rw [e1]); omega)⟩, trivial⟩ ?_
              exact ih (j + 1) A2 F2 _ (by push_cast; omega) (by rw [e2]; exact e0) (by push_cast; exact hR2) (by push_cast; omega) (by omega)
            · rw [lcm_eq] at c24
              refine R_s (P := True) (f' := (836, [some (vR 0), some (vR 1), some (vR 88), some (vI x)], [vI 0], LAY (shA A2) (shF F2), 113, 2248)) hc169 1 rfl trivial ?_
              exact R_retz hc169 rfl rfl (Or.inl rfl) (absurd (rfl : v = v) (by assumption))
          · refine R_s (P := True) (f' := (796, [some (vR 0), some (vR 1), some (vR 88), some (vI x)], [vI 1, vI (rd (A 0) (x + 3)), vI (rd (A 0) (x + 2)), vI (rd (A 0) (x + 1)), vR 1], LAY (shA A) (shF F), 113, 2248)) hc169 2 rfl trivial ?_
            refine R_cv hc169 rfl rfl (op_share hR (by omega) (rd (A 0) (x + 1)) (rd (A 0) (x + 2)) (rd (A 0) (x + 3)) (1) (rd_in hsc _) (rd_in hsc _) (rd_in hsc _) ⟨by decide, by decide⟩ (.inr rfl)) (fun r G9 hp9 => ?_)
            obtain ⟨⟨v, rfl⟩, ⟨A1, F1, rfl, e1⟩, hM⟩ := hp9
            refine R_s (f' := (799, [some (vR 0), some (vR 1), some (vR 88), some (vI x)], [vJ v], LAY A1 F1, 113, 2248)) hc169 0 rfl trivial ?_
            refine R_s (P := inI (x + 1) ∧ (0 ≤ x + 1 ∧ x + 1 < ((A1 0).length : Int)) ∧ inI (x + 2) ∧ (0 ≤ x + 2 ∧ x + 2 < ((A1 0).length : Int)) ∧ inI (x + 3) ∧ (0 ≤ x + 3 ∧ x + 3 < ((A1 0).length : Int)) ∧ inI (x + 4) ∧ (0 ≤ x + 4 ∧ x + 4 < ((A1 0).length : Int)) ∧ True) (f' := (820, [some (vR 0), some (vR 1), some (vR 88), some (vI x)], [vI (rd (A1 0) (x + 4)), vI (rd (A1 0) (x + 3)), vI (rd (A1 0) (x + 2)), vI (rd (A1 0) (x + 1)), vR 88, vJ v], LAY A1 F1, 113, 2248)) hc169 21 rfl ⟨⟨by ((try rw [e1]); omega), by ((try rw [e1]); omega)⟩, ⟨by ((try rw [e1]); omega), by ((try rw [e1]); omega)⟩, ⟨by ((try rw [e1]); omega), by ((try rw [e1]); omega)⟩, ⟨by ((try rw [e1]); omega), by ((try rw [e1]); omega)⟩, ⟨by ((try rw [e1]); omega), by ((try rw [e1]); omega)⟩, ⟨by ((try rw [e1]); omega), by ((try rw [e1]); omega)⟩, ⟨by ((try rw [e1]); omega), by ((try rw [e1]); omega)⟩, ⟨by ((try rw [e1]); omega), by ((try rw [e1]); omega)⟩, trivial⟩ ?_
            refine R_if (t := 827) hc169 rfl rfl (fun (z : rd (A1 0) (x + 4) = 0) => absurd z (by ((try rw [e1]); omega))) (fun (_ : ¬ (rd (A1 0) (x + 4) = 0)) => ?_)
            refine R_s (P := True) (f' := (828, [some (vR 0), some (vR 1), some (vR 88), some (vI x)], [vI 1, vI (rd (A1 0) (x + 3)), vI (rd (A1 0) (x + 2)), vI (rd (A1 0) (x + 1)), vR 88, vJ v], LAY A1 F1, 113, 2248)) hc169 2 rfl trivial ?_
            (try rw [e1])
            refine R_cv hc169 rfl rfl hM (fun r G9 hp9 => ?_)
            obtain ⟨rfl, A2, F2, rfl, e2, hR2⟩ := hp9
            refine R_s (f' := (831, [some (vR 0), some (vR 1), some (vR 88), some (vI x)], [vJ v, vJ v], LAY (shA A2) (shF F2), 113, 2248)) hc169 0 rfl trivial ?_
            refine R_s (P := True) (f' := (832, [some (vR 0), some (vR 1), some (vR 88), some (vI x)], [vI (if v < v then 1 else if v = v then 0 else -1)], LAY (shA A2) (shF F2), 113, 2248)) hc169 1 rfl trivial ?_
            refine R_if (t := 1301) hc169 rfl rfl (fun (c26 : (if v < v then 1 else if v = v then 0 else -1) = 0) => ?_) (fun (c26 : ¬ ((if v < v then 1 else if v = v then 0 else -1) = 0)) => ?_)
            · rw [lcm_eq] at c26
              refine R_s (P := inI (x + 5) ∧ True) (f' := (18, [some (vR 0), some (vR 1), some (vR 88), some (vI (x + 5))], [], LAY (shA A2) (shF F2), 113, 2248)) hc169 2 rfl ⟨⟨by ((try rw [e1]); omega), by ((try rw [e1]); omega)⟩, trivial⟩ ?_
              exact ih (j + 1) A2 F2 _ (by push_cast; omega) (by rw [e2]; exact e0) (by push_cast; exact hR2) (by push_cast; omega) (by omega)
            · rw [lcm_eq] at c26
              refine R_s (P := True) (f' := (836, [some (vR 0), some (vR 1), some (vR 88), some (vI x)], [vI 0], LAY (shA A2) (shF F2), 113, 2248)) hc169 1 rfl trivial ?_
              exact R_retz hc169 rfl rfl (Or.inl rfl) (absurd (rfl : v = v) (by assumption))
        | 20, hio, c2 =>
          cases hio
          refine R_s (f' := (837, [some (vR 0), some (vR 1), some (vR 88), some (vI x)], [], LAY (shA A) (shF F), 113, 2248)) hc169 0 rfl trivial ?_
          refine R_s (P := inI (x + 1) ∧ (0 ≤ x + 1 ∧ x + 1 < ((A 0).length : Int)) ∧ inI (x + 2) ∧ (0 ≤ x + 2 ∧ x + 2 < ((A 0).length : Int)) ∧ inI (x + 3) ∧ (0 ≤ x + 3 ∧ x + 3 < ((A 0).length : Int)) ∧ True) (f' := (853, [some (vR 0), some (vR 1), some (vR 88), some (vI x)], [vI (rd (A 0) (x + 3)), vI (rd (A 0) (x + 2)), vI (rd (A 0) (x + 1)), vR 1], LAY (shA A) (shF F), 113, 2248)) hc169 16 rfl ⟨⟨by ((try rw [e1]); omega), by ((try rw [e1]); omega)⟩, ⟨by ((try rw [e1]); omega), by ((try rw [e1]); omega)⟩, ⟨by ((try rw [e1]); omega), by ((try rw [e1]); omega)⟩, ⟨by ((try rw [e1]); omega), by ((try rw [e1]); omega)⟩, ⟨by ((try rw [e1]); omega), by ((try rw [e1]); omega)⟩, ⟨by ((try rw [e1]); omega), by ((try rw [e1]); omega)⟩, trivial⟩ ?_
          refine R_if (t := 860) hc169 rfl rfl (fun (c27 : rd (A 0) (x + 3) = 0) => ?_) (fun (c27 : ¬ (rd (A 0) (x + 3) = 0)) => ?_)
          · refine R_s (P := True) (f' := (861, [some (vR 0), some (vR 1), some (vR 88), some (vI x)], [vI 0, vI (rd (A 0) (x + 2)), vI (rd (A 0) (x + 1)), vR 1], LAY (shA A) (shF F), 113, 2248)) hc169 1 rfl trivial ?_
            refine R_cv hc169 rfl rfl (op_bound hR (by omega) (rd (A 0) (x + 1)) (rd (A 0) (x + 2)) (0) (rd_in hsc _) (rd_in hsc _) ⟨by decide, by decide⟩ (.inl rfl)) (fun r G9 hp9 => ?_)
            obtain ⟨⟨v, rfl⟩, ⟨A1, F1, rfl, e1⟩, hM⟩ := hp9
            refine R_s (f' := (864, [some (vR 0), some (vR 1), some (vR 88), some (vI x)], [vI v], LAY A1 F1, 113, 2248)) hc169 0 rfl trivial ?_
            refine R_s (P := inI (x + 1) ∧ (0 ≤ x + 1 ∧ x + 1 < ((A1 0).length : Int)) ∧ inI (x + 2) ∧ (0 ≤ x + 2 ∧ x + 2 < ((A1 0).length : Int)) ∧ inI (x + 3) ∧ (0 ≤ x + 3 ∧ x + 3 < ((A1 0).length : Int)) ∧ True) (f' := (880, [some (vR 0), some (vR 1), some (vR 88), some (vI x)], [vI (rd (A1 0) (x + 3)), vI (rd (A1 0) (x + 2)), vI (rd (A1 0) (x + 1)), vR 88, vI v], LAY A1 F1, 113, 2248)) hc169 16 rfl ⟨⟨by ((try rw [e1]); omega), by ((try rw [e1]); omega)⟩, ⟨by ((try rw [e1]); omega), by ((try rw [e1]); omega)⟩, ⟨by ((try rw [e1]); omega), by ((try rw [e1]); omega)⟩, ⟨by ((try rw [e1]); omega), by ((try rw [e1]); omega)⟩, ⟨by ((try rw [e1]); omega), by ((try rw [e1]); omega)⟩, ⟨by ((try rw [e1]); omega), by ((try rw [e1]); omega)⟩, trivial⟩ ?_
            refine R_if (t := 887) hc169 rfl rfl (fun (_ : rd (A1 0) (x + 3) = 0) => ?_) (fun (z : ¬ (rd (A1 0) (x + 3) = 0)) => absurd (show rd (A1 0) (x + 3) = 0 by ((try rw [e1]); omega)) z)
            refine R_s (P := True) (f' := (888, [some (vR 0), some (vR 1), some (vR 88), some (vI x)], [vI 0, vI (rd (A1 0) (x + 2)), vI (rd (A1 0) (x + 1)), vR 88, vI v], LAY A1 F1, 113, 2248)) hc169 1 rfl trivial ?_
            (try rw [e1])
            refine R_cv hc169 rfl rfl hM (fun r G9 hp9 => ?_)
            obtain ⟨rfl, A2, F2, rfl, e2, hR2⟩ := hp9
            refine R_s (f' := (891, [some (vR 0), some (vR 1), some (vR 88), some (vI x)], [vI v, vI v], LAY (shA A2) (shF F2), 113, 2248)) hc169 0 rfl trivial ?_
            refine R_ic (t := 1301) hc169 rfl rfl (fun (_ : v = v) => ?_) (fun (z : ¬ (v = v)) => absurd (show v = v by ((try rw [e1]); omega)) z)
            refine R_s (P := inI (x + 5) ∧ True) (f' := (18, [some (vR 0), some (vR 1), some (vR 88), some (vI (x + 5))], [], LAY (shA A2) (shF F2), 113, 2248)) hc169 2 rfl ⟨⟨by ((try rw [e1]); omega), by ((try rw [e1]); omega)⟩, trivial⟩ ?_
            exact ih (j + 1) A2 F2 _ (by push_cast; omega) (by rw [e2]; exact e0) (by push_cast; exact hR2) (by push_cast; omega) (by omega)
          · refine R_s (P := True) (f' := (861, [some (vR 0), some (vR 1), some (vR 88), some (vI x)], [vI 1, vI (rd (A 0) (x + 2)), vI (rd (A 0) (x + 1)), vR 1], LAY (shA A) (shF F), 113, 2248)) hc169 2 rfl trivial ?_
            refine R_cv hc169 rfl rfl (op_bound hR (by omega) (rd (A 0) (x + 1)) (rd (A 0) (x + 2)) (1) (rd_in hsc _) (rd_in hsc _) ⟨by decide, by decide⟩ (.inr rfl)) (fun r G9 hp9 => ?_)
            obtain ⟨⟨v, rfl⟩, ⟨A1, F1, rfl, e1⟩, hM⟩ := hp9
            refine R_s (f' := (864, [some (vR 0), some (vR 1), some (vR 88), some (vI x)], [vI v], LAY A1 F1, 113, 2248)) hc169 0 rfl trivial ?_
            refine R_s (P := inI (x + 1) ∧ (0 ≤ x + 1 ∧ x + 1 < ((A1 0).length : Int)) ∧ inI (x + 2) ∧ (0 ≤ x + 2 ∧ x + 2 < ((A1 0).length : Int)) ∧ inI (x + 3) ∧ (0 ≤ x + 3 ∧ x + 3 < ((A1 0).length : Int)) ∧ True) (f' := (880, [some (vR 0), some (vR 1), some (vR 88), some (vI x)], [vI (rd (A1 0) (x + 3)), vI (rd (A1 0) (x + 2)), vI (rd (A1 0) (x + 1)), vR 88, vI v], LAY A1 F1, 113, 2248)) hc169 16 rfl ⟨⟨by ((try rw [e1]); omega), by ((try rw [e1]); omega)⟩, ⟨by ((try rw [e1]); omega), by ((try rw [e1]); omega)⟩, ⟨by ((try rw [e1]); omega), by ((try rw [e1]); omega)⟩, ⟨by ((try rw [e1]); omega), by ((try rw [e1]); omega)⟩, ⟨by ((try rw [e1]); omega), by ((try rw [e1]); omega)⟩, ⟨by ((try rw [e1]); omega), by ((try rw [e1]); omega)⟩, trivial⟩ ?_
            refine R_if (t := 887) hc169 rfl rfl (fun (z : rd (A1 0) (x + 3) = 0) => absurd z (by ((try rw [e1]); omega))) (fun (_ : ¬ (rd (A1 0) (x + 3) = 0)) => ?_)
            refine R_s (P := True) (f' := (888, [some (vR 0), some (vR 1), some (vR 88), some (vI x)], [vI 1, vI (rd (A1 0) (x + 2)), vI (rd (A1 0) (x + 1)), vR 88, vI v], LAY A1 F1, 113, 2248)) hc169 2 rfl trivial ?_
            (try rw [e1])
            refine R_cv hc169 rfl rfl hM (fun r G9 hp9 => ?_)
            obtain ⟨rfl, A2, F2, rfl, e2, hR2⟩ := hp9
            refine R_s (f' := (891, [some (vR 0), some (vR 1), some (vR 88), some (vI x)], [vI v, vI v], LAY (shA A2) (shF F2), 113, 2248)) hc169 0 rfl trivial ?_
            refine R_ic (t := 1301) hc169 rfl rfl (fun (_ : v = v) => ?_) (fun (z : ¬ (v = v)) => absurd (show v = v by ((try rw [e1]); omega)) z)
            refine R_s (P := inI (x + 5) ∧ True) (f' := (18, [some (vR 0), some (vR 1), some (vR 88), some (vI (x + 5))], [], LAY (shA A2) (shF F2), 113, 2248)) hc169 2 rfl ⟨⟨by ((try rw [e1]); omega), by ((try rw [e1]); omega)⟩, trivial⟩ ?_
            exact ih (j + 1) A2 F2 _ (by push_cast; omega) (by rw [e2]; exact e0) (by push_cast; exact hR2) (by push_cast; omega) (by omega)
        | 21, hio, c2 =>
          cases hio
          refine R_s (f' := (896, [some (vR 0), some (vR 1), some (vR 88), some (vI x)], [], LAY (shA A) (shF F), 113, 2248)) hc169 0 rfl trivial ?_
          refine R_s (P := inI (x + 1) ∧ (0 ≤ x + 1 ∧ x + 1 < ((A 0).length : Int)) ∧ True) (f' := (902, [some (vR 0), some (vR 1), some (vR 88), some (vI x)], [vI (rd (A 0) (x + 1)), vR 1], LAY (shA A) (shF F), 113, 2248)) hc169 6 rfl ⟨⟨by ((try rw [e1]); omega), by ((try rw [e1]); omega)⟩, ⟨by ((try rw [e1]); omega), by ((try rw [e1]); omega)⟩, trivial⟩ ?_
          refine R_cv hc169 rfl rfl (op_run hR (by omega) (rd (A 0) (x + 1)) (rd_in hsc _)) (fun r G9 hp9 => ?_)
          obtain ⟨⟨v, rfl⟩, ⟨A1, F1, rfl, e1⟩, hM⟩ := hp9
          refine R_s (f' := (905, [some (vR 0), some (vR 1), some (vR 88), some (vI x)], [vI v], LAY A1 F1, 113, 2248)) hc169 0 rfl trivial ?_
          refine R_s (P := inI (x + 1) ∧ (0 ≤ x + 1 ∧ x + 1 < ((A1 0).length : Int)) ∧ True) (f' := (911, [some (vR 0), some (vR 1), some (vR 88), some (vI x)], [vI (rd (A1 0) (x + 1)), vR 88, vI v], LAY A1 F1, 113, 2248)) hc169 6 rfl ⟨⟨by ((try rw [e1]); omega), by ((try rw [e1]); omega)⟩, ⟨by ((try rw [e1]); omega), by ((try rw [e1]); omega)⟩, trivial⟩ ?_
          (try rw [e1])
          refine R_cv hc169 rfl rfl hM (fun r G9 hp9 => ?_)
          obtain ⟨rfl, A2, F2, rfl, e2, hR2⟩ := hp9
          refine R_s (f' := (914, [some (vR 0), some (vR 1), some (vR 88), some (vI x)], [vI v, vI v], LAY (shA A2) (shF F2), 113, 2248)) hc169 0 rfl trivial ?_
          refine R_ic (t := 1301) hc169 rfl rfl (fun (_ : v = v) => ?_) (fun (z : ¬ (v = v)) => absurd (show v = v by ((try rw [e1]); omega)) z)
          refine R_s (P := inI (x + 5) ∧ True) (f' := (18, [some (vR 0), some (vR 1), some (vR 88), some (vI (x + 5))], [], LAY (shA A2) (shF F2), 113, 2248)) hc169 2 rfl ⟨⟨by ((try rw [e1]); omega), by ((try rw [e1]); omega)⟩, trivial⟩ ?_
          exact ih (j + 1) A2 F2 _ (by push_cast; omega) (by rw [e2]; exact e0) (by push_cast; exact hR2) (by push_cast; omega) (by omega)
        | 22, hio, c2 =>
          cases hio
          refine R_s (f' := (919, [some (vR 0), some (vR 1), some (vR 88), some (vI x)], [], LAY (shA A) (shF F), 113, 2248)) hc169 0 rfl trivial ?_
          refine R_s (P := inI (x + 1) ∧ (0 ≤ x + 1 ∧ x + 1 < ((A 0).length : Int)) ∧ inI (x + 2) ∧ (0 ≤ x + 2 ∧ x + 2 < ((A 0).length : Int)) ∧ True) (f' := (930, [some (vR 0), some (vR 1), some (vR 88), some (vI x)], [vI (rd (A 0) (x + 2)), vI (rd (A 0) (x + 1)), vR 1], LAY (shA A) (shF F), 113, 2248)) hc169 11 rfl ⟨⟨by ((try rw [e1]); omega), by ((try rw [e1]); omega)⟩, ⟨by ((try rw [e1]); omega), by ((try rw [e1]); omega)⟩, ⟨by ((try rw [e1]); omega), by ((try rw [e1]); omega)⟩, ⟨by ((try rw [e1]); omega), by ((try rw [e1]); omega)⟩, trivial⟩ ?_
          refine R_if (t := 937) hc169 rfl rfl (fun (c33 : rd (A 0) (x + 2) = 0) => ?_) (fun (c33 : ¬ (rd (A 0) (x + 2) = 0)) => ?_)
          · refine R_s (P := True) (f' := (938, [some (vR 0), some (vR 1), some (vR 88), some (vI x)], [vI 0, vI (rd (A 0) (x + 1)), vR 1], LAY (shA A) (shF F), 113, 2248)) hc169 1 rfl trivial ?_
            refine R_cv hc169 rfl rfl (op_account hR (by omega) (rd (A 0) (x + 1)) (0) (rd_in hsc _) ⟨by decide, by decide⟩ (.inl rfl)) (fun r G9 hp9 => ?_)
            obtain ⟨⟨v, rfl⟩, ⟨A1, F1, rfl, e1⟩, hM⟩ := hp9
            refine R_s (f' := (941, [some (vR 0), some (vR 1), some (vR 88), some (vI x)], [vJ v], LAY A1 F1, 113, 2248)) hc169 0 rfl trivial ?_
            refine R_s (P := inI (x + 1) ∧ (0 ≤ x + 1 ∧ x + 1 < ((A1 0).length : Int)) ∧ inI (x + 2) ∧ (0 ≤ x + 2 ∧ x + 2 < ((A1 0).length : Int)) ∧ True) (f' := (952, [some (vR 0), some (vR 1), some (vR 88), some (vI x)], [vI (rd (A1 0) (x + 2)), vI (rd (A1 0) (x + 1)), vR 88, vJ v], LAY A1 F1, 113, 2248)) hc169 11 rfl ⟨⟨by ((try rw [e1]); omega), by ((try rw [e1]); omega)⟩, ⟨by ((try rw [e1]); omega), by ((try rw [e1]); omega)⟩, ⟨by ((try rw [e1]); omega), by ((try rw [e1]); omega)⟩, ⟨by ((try rw [e1]); omega), by ((try rw [e1]); omega)⟩, trivial⟩ ?_
            refine R_if (t := 959) hc169 rfl rfl (fun (_ : rd (A1 0) (x + 2) = 0) => ?_) (fun (z : ¬ (rd (A1 0) (x + 2) = 0)) => absurd (show rd (A1 0) (x + 2) = 0 by ((try rw [e1]); omega)) z)
            refine R_s (P := True) (f' := (960, [some (vR 0), some (vR 1), some (vR 88), some (vI x)], [vI 0, vI (rd (A1 0) (x + 1)), vR 88, vJ v], LAY A1 F1, 113, 2248)) hc169 1 rfl trivial ?_
            (try rw [e1])
            refine R_cv hc169 rfl rfl hM (fun r G9 hp9 => ?_)
            obtain ⟨rfl, A2, F2, rfl, e2, hR2⟩ := hp9
            refine R_s (f' := (963, [some (vR 0), some (vR 1), some (vR 88), some (vI x)], [vJ v, vJ v], LAY (shA A2) (shF F2), 113, 2248)) hc169 0 rfl trivial ?_
            refine R_s (P := True) (f' := (964, [some (vR 0), some (vR 1), some (vR 88), some (vI x)], [vI (if v < v then 1 else if v = v then 0 else -1)], LAY (shA A2) (shF F2), 113, 2248)) hc169 1 rfl trivial ?_
            refine R_if (t := 1301) hc169 rfl rfl (fun (c35 : (if v < v then 1 else if v = v then 0 else -1) = 0) => ?_) (fun (c35 : ¬ ((if v < v then 1 else if v = v then 0 else -1) = 0)) => ?_)
            · rw [lcm_eq] at c35
              refine R_s (P := inI (x + 5) ∧ True) (f' := (18, [some (vR 0), some (vR 1), some (vR 88), some (vI (x + 5))], [], LAY (shA A2) (shF F2), 113, 2248)) hc169 2 rfl ⟨⟨by ((try rw [e1]); omega), by ((try rw [e1]); omega)⟩, trivial⟩ ?_
              exact ih (j + 1) A2 F2 _ (by push_cast; omega) (by rw [e2]; exact e0) (by push_cast; exact hR2) (by push_cast; omega) (by omega)
            · rw [lcm_eq] at c35
              refine R_s (P := True) (f' := (968, [some (vR 0), some (vR 1), some (vR 88), some (vI x)], [vI 0], LAY (shA A2) (shF F2), 113, 2248)) hc169 1 rfl trivial ?_
              exact R_retz hc169 rfl rfl (Or.inl rfl) (absurd (rfl : v = v) (by assumption))
          · refine R_s (P := True) (f' := (938, [some (vR 0), some (vR 1), some (vR 88), some (vI x)], [vI 1, vI (rd (A 0) (x + 1)), vR 1], LAY (shA A) (shF F), 113, 2248)) hc169 2 rfl trivial ?_
            refine R_cv hc169 rfl rfl (op_account hR (by omega) (rd (A 0) (x + 1)) (1) (rd_in hsc _) ⟨by decide, by decide⟩ (.inr rfl)) (fun r G9 hp9 => ?_)
            obtain ⟨⟨v, rfl⟩, ⟨A1, F1, rfl, e1⟩, hM⟩ := hp9
            refine R_s (f' := (941, [some (vR 0), some (vR 1), some (vR 88), some (vI x)], [vJ v], LAY A1 F1, 113, 2248)) hc169 0 rfl trivial ?_
            refine R_s (P := inI (x + 1) ∧ (0 ≤ x + 1 ∧ x + 1 < ((A1 0).length : Int)) ∧ inI (x + 2) ∧ (0 ≤ x + 2 ∧ x + 2 < ((A1 0).length : Int)) ∧ True) (f' := (952, [some (vR 0), some (vR 1), some (vR 88), some (vI x)], [vI (rd (A1 0) (x + 2)), vI (rd (A1 0) (x + 1)), vR 88, vJ v], LAY A1 F1, 113, 2248)) hc169 11 rfl ⟨⟨by ((try rw [e1]); omega), by ((try rw [e1]); omega)⟩, ⟨by ((try rw [e1]); omega), by ((try rw [e1]); omega)⟩, ⟨by ((try rw [e1]); omega), by ((try rw [e1]); omega)⟩, ⟨by ((try rw [e1]); omega), by ((try rw [e1]); omega)⟩, trivial⟩ ?_
            refine R_if (t := 959) hc169 rfl rfl (fun (z : rd (A1 0) (x + 2) = 0) => absurd z (by ((try rw [e1]); omega))) (fun (_ : ¬ (rd (A1 0) (x + 2) = 0)) => ?_)
            refine R_s (P := True) (f' := (960, [some (vR 0), some (vR 1), some (vR 88), some (vI x)], [vI 1, vI (rd (A1 0) (x + 1)), vR 88, vJ v], LAY A1 F1, 113, 2248)) hc169 2 rfl trivial ?_
            (try rw [e1])
            refine R_cv hc169 rfl rfl hM (fun r G9 hp9 => ?_)
            obtain ⟨rfl, A2, F2, rfl, e2, hR2⟩ := hp9
            refine R_s (f' := (963, [some (vR 0), some (vR 1), some (vR 88), some (vI x)], [vJ v, vJ v], LAY (shA A2) (shF F2), 113, 2248)) hc169 0 rfl trivial ?_
            refine R_s (P := True) (f' := (964, [some (vR 0), some (vR 1), some (vR 88), some (vI x)], [vI (if v < v then 1 else if v = v then 0 else -1)], LAY (shA A2) (shF F2), 113, 2248)) hc169 1 rfl trivial ?_
            refine R_if (t := 1301) hc169 rfl rfl (fun (c37 : (if v < v then 1 else if v = v then 0 else -1) = 0) => ?_) (fun (c37 : ¬ ((if v < v then 1 else if v = v then 0 else -1) = 0)) => ?_)
            · rw [lcm_eq] at c37
              refine R_s (P := inI (x + 5) ∧ True) (f' := (18, [some (vR 0), some (vR 1), some (vR 88), some (vI (x + 5))], [], LAY (shA A2) (shF F2), 113, 2248)) hc169 2 rfl ⟨⟨by ((try rw [e1]); omega), by ((try rw [e1]); omega)⟩, trivial⟩ ?_
              exact ih (j + 1) A2 F2 _ (by push_cast; omega) (by rw [e2]; exact e0) (by push_cast; exact hR2) (by push_cast; omega) (by omega)
            · rw [lcm_eq] at c37
              refine R_s (P := True) (f' := (968, [some (vR 0), some (vR 1), some (vR 88), some (vI x)], [vI 0], LAY (shA A2) (shF F2), 113, 2248)) hc169 1 rfl trivial ?_
              exact R_retz hc169 rfl rfl (Or.inl rfl) (absurd (rfl : v = v) (by assumption))
        | 23, hio, c2 =>
          cases hio
          refine R_s (f' := (969, [some (vR 0), some (vR 1), some (vR 88), some (vI x)], [], LAY (shA A) (shF F), 113, 2248)) hc169 0 rfl trivial ?_
          refine R_s (P := inI (x + 1) ∧ (0 ≤ x + 1 ∧ x + 1 < ((A 0).length : Int)) ∧ inI (x + 2) ∧ (0 ≤ x + 2 ∧ x + 2 < ((A 0).length : Int)) ∧ inI (x + 3) ∧ (0 ≤ x + 3 ∧ x + 3 < ((A 0).length : Int)) ∧ inI (x + 4) ∧ (0 ≤ x + 4 ∧ x + 4 < ((A 0).length : Int)) ∧ True) (f' := (990, [some (vR 0), some (vR 1), some (vR 88), some (vI x)], [vI (rd (A 0) (x + 4)), vI (rd (A 0) (x + 3)), vI (rd (A 0) (x + 2)), vI (rd (A 0) (x + 1)), vR 1], LAY (shA A) (shF F), 113, 2248)) hc169 21 rfl ⟨⟨by ((try rw [e1]); omega), by ((try rw [e1]); omega)⟩, ⟨by ((try rw [e1]); omega), by ((try rw [e1]); omega)⟩, ⟨by ((try rw [e1]); omega), by ((try rw [e1]); omega)⟩, ⟨by ((try rw [e1]); omega), by ((try rw [e1]); omega)⟩, ⟨by ((try rw [e1]); omega), by ((try rw [e1]); omega)⟩, ⟨by ((try rw [e1]); omega), by ((try rw [e1]); omega)⟩, ⟨by ((try rw [e1]); omega), by ((try rw [e1]); omega)⟩, ⟨by ((try rw [e1]); omega), by ((try rw [e1]); omega)⟩, trivial⟩ ?_
          refine R_if (t := 997) hc169 rfl rfl (fun (c38 : rd (A 0) (x + 4) = 0) => ?_) (fun (c38 : ¬ (rd (A 0) (x + 4) = 0)) => ?_)
          · refine R_s (P := True) (f' := (998, [some (vR 0), some (vR 1), some (vR 88), some (vI x)], [vI 0, vI (rd (A 0) (x + 3)), vI (rd (A 0) (x + 2)), vI (rd (A 0) (x + 1)), vR 1], LAY (shA A) (shF F), 113, 2248)) hc169 1 rfl trivial ?_
            refine R_cv hc169 rfl rfl (op_lease hR (by omega) (rd (A 0) (x + 1)) (rd (A 0) (x + 2)) (rd (A 0) (x + 3)) (0) (rd_in hsc _) (rd_in hsc _) (rd_in hsc _) ⟨by decide, by decide⟩ (.inl rfl)) (fun r G9 hp9 => ?_)
            obtain ⟨⟨v, rfl⟩, ⟨A1, F1, rfl, e1⟩, hM⟩ := hp9
            refine R_s (f' := (1001, [some (vR 0), some (vR 1), some (vR 88), some (vI x)], [vI v], LAY A1 F1, 113, 2248)) hc169 0 rfl trivial ?_
            refine R_s (P := inI (x + 1) ∧ (0 ≤ x + 1 ∧ x + 1 < ((A1 0).length : Int)) ∧ inI (x + 2) ∧ (0 ≤ x + 2 ∧ x + 2 < ((A1 0).length : Int)) ∧ inI (x + 3) ∧ (0 ≤ x + 3 ∧ x + 3 < ((A1 0).length : Int)) ∧ inI (x + 4) ∧ (0 ≤ x + 4 ∧ x + 4 < ((A1 0).length : Int)) ∧ True) (f' := (1022, [some (vR 0), some (vR 1), some (vR 88), some (vI x)], [vI (rd (A1 0) (x + 4)), vI (rd (A1 0) (x + 3)), vI (rd (A1 0) (x + 2)), vI (rd (A1 0) (x + 1)), vR 88, vI v], LAY A1 F1, 113, 2248)) hc169 21 rfl ⟨⟨by ((try rw [e1]); omega), by ((try rw [e1]); omega)⟩, ⟨by ((try rw [e1]); omega), by ((try rw [e1]); omega)⟩, ⟨by ((try rw [e1]); omega), by ((try rw [e1]); omega)⟩, ⟨by ((try rw [e1]); omega), by ((try rw [e1]); omega)⟩, ⟨by ((try rw [e1]); omega), by ((try rw [e1]); omega)⟩, ⟨by ((try rw [e1]); omega), by ((try rw [e1]); omega)⟩, ⟨by ((try rw [e1]); omega), by ((try rw [e1]); omega)⟩, ⟨by ((try rw [e1]); omega), by ((try rw [e1]); omega)⟩, trivial⟩ ?_
            refine R_if (t := 1029) hc169 rfl rfl (fun (_ : rd (A1 0) (x + 4) = 0) => ?_) (fun (z : ¬ (rd (A1 0) (x + 4) = 0)) => absurd (show rd (A1 0) (x + 4) = 0 by ((try rw [e1]); omega)) z)
            refine R_s (P := True) (f' := (1030, [some (vR 0), some (vR 1), some (vR 88), some (vI x)], [vI 0, vI (rd (A1 0) (x + 3)), vI (rd (A1 0) (x + 2)), vI (rd (A1 0) (x + 1)), vR 88, vI v], LAY A1 F1, 113, 2248)) hc169 1 rfl trivial ?_
            (try rw [e1])
            refine R_cv hc169 rfl rfl hM (fun r G9 hp9 => ?_)
            obtain ⟨rfl, A2, F2, rfl, e2, hR2⟩ := hp9
            refine R_s (f' := (1033, [some (vR 0), some (vR 1), some (vR 88), some (vI x)], [vI v, vI v], LAY (shA A2) (shF F2), 113, 2248)) hc169 0 rfl trivial ?_
            refine R_ic (t := 1301) hc169 rfl rfl (fun (_ : v = v) => ?_) (fun (z : ¬ (v = v)) => absurd (show v = v by ((try rw [e1]); omega)) z)
            refine R_s (P := inI (x + 5) ∧ True) (f' := (18, [some (vR 0), some (vR 1), some (vR 88), some (vI (x + 5))], [], LAY (shA A2) (shF F2), 113, 2248)) hc169 2 rfl ⟨⟨by ((try rw [e1]); omega), by ((try rw [e1]); omega)⟩, trivial⟩ ?_
            exact ih (j + 1) A2 F2 _ (by push_cast; omega) (by rw [e2]; exact e0) (by push_cast; exact hR2) (by push_cast; omega) (by omega)
          · refine R_s (P := True) (f' := (998, [some (vR 0), some (vR 1), some (vR 88), some (vI x)], [vI 1, vI (rd (A 0) (x + 3)), vI (rd (A 0) (x + 2)), vI (rd (A 0) (x + 1)), vR 1], LAY (shA A) (shF F), 113, 2248)) hc169 2 rfl trivial ?_
            refine R_cv hc169 rfl rfl (op_lease hR (by omega) (rd (A 0) (x + 1)) (rd (A 0) (x + 2)) (rd (A 0) (x + 3)) (1) (rd_in hsc _) (rd_in hsc _) (rd_in hsc _) ⟨by decide, by decide⟩ (.inr rfl)) (fun r G9 hp9 => ?_)
            obtain ⟨⟨v, rfl⟩, ⟨A1, F1, rfl, e1⟩, hM⟩ := hp9
            refine R_s (f' := (1001, [some (vR 0), some (vR 1), some (vR 88), some (vI x)], [vI v], LAY A1 F1, 113, 2248)) hc169 0 rfl trivial ?_
            refine R_s (P := inI (x + 1) ∧ (0 ≤ x + 1 ∧ x + 1 < ((A1 0).length : Int)) ∧ inI (x + 2) ∧ (0 ≤ x + 2 ∧ x + 2 < ((A1 0).length : Int)) ∧ inI (x + 3) ∧ (0 ≤ x + 3 ∧ x + 3 < ((A1 0).length : Int)) ∧ inI (x + 4) ∧ (0 ≤ x + 4 ∧ x + 4 < ((A1 0).length : Int)) ∧ True) (f' := (1022, [some (vR 0), some (vR 1), some (vR 88), some (vI x)], [vI (rd (A1 0) (x + 4)), vI (rd (A1 0) (x + 3)), vI (rd (A1 0) (x + 2)), vI (rd (A1 0) (x + 1)), vR 88, vI v], LAY A1 F1, 113, 2248)) hc169 21 rfl ⟨⟨by ((try rw [e1]); omega), by ((try rw [e1]); omega)⟩, ⟨by ((try rw [e1]); omega), by ((try rw [e1]); omega)⟩, ⟨by ((try rw [e1]); omega), by ((try rw [e1]); omega)⟩, ⟨by ((try rw [e1]); omega), by ((try rw [e1]); omega)⟩, ⟨by ((try rw [e1]); omega), by ((try rw [e1]); omega)⟩, ⟨by ((try rw [e1]); omega), by ((try rw [e1]); omega)⟩, ⟨by ((try rw [e1]); omega), by ((try rw [e1]); omega)⟩, ⟨by ((try rw [e1]); omega), by ((try rw [e1]); omega)⟩, trivial⟩ ?_
            refine R_if (t := 1029) hc169 rfl rfl (fun (z : rd (A1 0) (x + 4) = 0) => absurd z (by ((try rw [e1]); omega))) (fun (_ : ¬ (rd (A1 0) (x + 4) = 0)) => ?_)
            refine R_s (P := True) (f' := (1030, [some (vR 0), some (vR 1), some (vR 88), some (vI x)], [vI 1, vI (rd (A1 0) (x + 3)), vI (rd (A1 0) (x + 2)), vI (rd (A1 0) (x + 1)), vR 88, vI v], LAY A1 F1, 113, 2248)) hc169 2 rfl trivial ?_
            (try rw [e1])
            refine R_cv hc169 rfl rfl hM (fun r G9 hp9 => ?_)
            obtain ⟨rfl, A2, F2, rfl, e2, hR2⟩ := hp9
            refine R_s (f' := (1033, [some (vR 0), some (vR 1), some (vR 88), some (vI x)], [vI v, vI v], LAY (shA A2) (shF F2), 113, 2248)) hc169 0 rfl trivial ?_
            refine R_ic (t := 1301) hc169 rfl rfl (fun (_ : v = v) => ?_) (fun (z : ¬ (v = v)) => absurd (show v = v by ((try rw [e1]); omega)) z)
            refine R_s (P := inI (x + 5) ∧ True) (f' := (18, [some (vR 0), some (vR 1), some (vR 88), some (vI (x + 5))], [], LAY (shA A2) (shF F2), 113, 2248)) hc169 2 rfl ⟨⟨by ((try rw [e1]); omega), by ((try rw [e1]); omega)⟩, trivial⟩ ?_
            exact ih (j + 1) A2 F2 _ (by push_cast; omega) (by rw [e2]; exact e0) (by push_cast; exact hR2) (by push_cast; omega) (by omega)
        | 24, hio, c2 =>
          cases hio
          refine R_s (f' := (1038, [some (vR 0), some (vR 1), some (vR 88), some (vI x)], [], LAY (shA A) (shF F), 113, 2248)) hc169 0 rfl trivial ?_
          refine R_s (P := inI (x + 1) ∧ (0 ≤ x + 1 ∧ x + 1 < ((A 0).length : Int)) ∧ inI (x + 2) ∧ (0 ≤ x + 2 ∧ x + 2 < ((A 0).length : Int)) ∧ True) (f' := (1049, [some (vR 0), some (vR 1), some (vR 88), some (vI x)], [vI (rd (A 0) (x + 2)), vI (rd (A 0) (x + 1)), vR 1], LAY (shA A) (shF F), 113, 2248)) hc169 11 rfl ⟨⟨by ((try rw [e1]); omega), by ((try rw [e1]); omega)⟩, ⟨by ((try rw [e1]); omega), by ((try rw [e1]); omega)⟩, ⟨by ((try rw [e1]); omega), by ((try rw [e1]); omega)⟩, ⟨by ((try rw [e1]); omega), by ((try rw [e1]); omega)⟩, trivial⟩ ?_
          refine R_cv hc169 rfl rfl (op_leased hR (by omega) (rd (A 0) (x + 1)) (rd (A 0) (x + 2)) (rd_in hsc _) (rd_in hsc _)) (fun r G9 hp9 => ?_)
          obtain ⟨⟨v, rfl⟩, ⟨A1, F1, rfl, e1⟩, hM⟩ := hp9
          refine R_s (f' := (1052, [some (vR 0), some (vR 1), some (vR 88), some (vI x)], [vI v], LAY A1 F1, 113, 2248)) hc169 0 rfl trivial ?_
          refine R_s (P := inI (x + 1) ∧ (0 ≤ x + 1 ∧ x + 1 < ((A1 0).length : Int)) ∧ inI (x + 2) ∧ (0 ≤ x + 2 ∧ x + 2 < ((A1 0).length : Int)) ∧ True) (f' := (1063, [some (vR 0), some (vR 1), some (vR 88), some (vI x)], [vI (rd (A1 0) (x + 2)), vI (rd (A1 0) (x + 1)), vR 88, vI v], LAY A1 F1, 113, 2248)) hc169 11 rfl ⟨⟨by ((try rw [e1]); omega), by ((try rw [e1]); omega)⟩, ⟨by ((try rw [e1]); omega), by ((try rw [e1]); omega)⟩, ⟨by ((try rw [e1]); omega), by ((try rw [e1]); omega)⟩, ⟨by ((try rw [e1]); omega), by ((try rw [e1]); omega)⟩, trivial⟩ ?_
          (try rw [e1])
          refine R_cv hc169 rfl rfl hM (fun r G9 hp9 => ?_)
          obtain ⟨rfl, A2, F2, rfl, e2, hR2⟩ := hp9
          refine R_s (f' := (1066, [some (vR 0), some (vR 1), some (vR 88), some (vI x)], [vI v, vI v], LAY (shA A2) (shF F2), 113, 2248)) hc169 0 rfl trivial ?_
          refine R_ic (t := 1301) hc169 rfl rfl (fun (_ : v = v) => ?_) (fun (z : ¬ (v = v)) => absurd (show v = v by ((try rw [e1]); omega)) z)
          refine R_s (P := inI (x + 5) ∧ True) (f' := (18, [some (vR 0), some (vR 1), some (vR 88), some (vI (x + 5))], [], LAY (shA A2) (shF F2), 113, 2248)) hc169 2 rfl ⟨⟨by ((try rw [e1]); omega), by ((try rw [e1]); omega)⟩, trivial⟩ ?_
          exact ih (j + 1) A2 F2 _ (by push_cast; omega) (by rw [e2]; exact e0) (by push_cast; exact hR2) (by push_cast; omega) (by omega)
        | 25, hio, c2 =>
          cases hio
          refine R_s (f' := (1071, [some (vR 0), some (vR 1), some (vR 88), some (vI x)], [], LAY (shA A) (shF F), 113, 2248)) hc169 0 rfl trivial ?_
          refine R_s (P := inI (x + 1) ∧ (0 ≤ x + 1 ∧ x + 1 < ((A 0).length : Int)) ∧ True) (f' := (1077, [some (vR 0), some (vR 1), some (vR 88), some (vI x)], [vI (rd (A 0) (x + 1)), vR 1], LAY (shA A) (shF F), 113, 2248)) hc169 6 rfl ⟨⟨by ((try rw [e1]); omega), by ((try rw [e1]); omega)⟩, ⟨by ((try rw [e1]); omega), by ((try rw [e1]); omega)⟩, trivial⟩ ?_
          refine R_cv hc169 rfl rfl (op_law hR (by omega) (rd (A 0) (x + 1)) (rd_in hsc _)) (fun r G9 hp9 => ?_)
          obtain ⟨⟨v, rfl⟩, ⟨A1, F1, rfl, e1⟩, hM⟩ := hp9
          refine R_s (f' := (1080, [some (vR 0), some (vR 1), some (vR 88), some (vI x)], [vI v], LAY A1 F1, 113, 2248)) hc169 0 rfl trivial ?_
          refine R_s (P := inI (x + 1) ∧ (0 ≤ x + 1 ∧ x + 1 < ((A1 0).length : Int)) ∧ True) (f' := (1086, [some (vR 0), some (vR 1), some (vR 88), some (vI x)], [vI (rd (A1 0) (x + 1)), vR 88, vI v], LAY A1 F1, 113, 2248)) hc169 6 rfl ⟨⟨by ((try rw [e1]); omega), by ((try rw [e1]); omega)⟩, ⟨by ((try rw [e1]); omega), by ((try rw [e1]); omega)⟩, trivial⟩ ?_
          (try rw [e1])
          refine R_cv hc169 rfl rfl hM (fun r G9 hp9 => ?_)
          obtain ⟨rfl, A2, F2, rfl, e2, hR2⟩ := hp9
          refine R_s (f' := (1089, [some (vR 0), some (vR 1), some (vR 88), some (vI x)], [vI v, vI v], LAY (shA A2) (shF F2), 113, 2248)) hc169 0 rfl trivial ?_
          refine R_ic (t := 1301) hc169 rfl rfl (fun (_ : v = v) => ?_) (fun (z : ¬ (v = v)) => absurd (show v = v by ((try rw [e1]); omega)) z)
          refine R_s (P := inI (x + 5) ∧ True) (f' := (18, [some (vR 0), some (vR 1), some (vR 88), some (vI (x + 5))], [], LAY (shA A2) (shF F2), 113, 2248)) hc169 2 rfl ⟨⟨by ((try rw [e1]); omega), by ((try rw [e1]); omega)⟩, trivial⟩ ?_
          exact ih (j + 1) A2 F2 _ (by push_cast; omega) (by rw [e2]; exact e0) (by push_cast; exact hR2) (by push_cast; omega) (by omega)
        | 26, hio, c2 =>
          cases hio
          refine R_s (f' := (1094, [some (vR 0), some (vR 1), some (vR 88), some (vI x)], [], LAY (shA A) (shF F), 113, 2248)) hc169 0 rfl trivial ?_
          refine R_s (P := inI (x + 1) ∧ (0 ≤ x + 1 ∧ x + 1 < ((A 0).length : Int)) ∧ inI (x + 2) ∧ (0 ≤ x + 2 ∧ x + 2 < ((A 0).length : Int)) ∧ inI (x + 3) ∧ (0 ≤ x + 3 ∧ x + 3 < ((A 0).length : Int)) ∧ True) (f' := (1110, [some (vR 0), some (vR 1), some (vR 88), some (vI x)], [vI (rd (A 0) (x + 3)), vI (rd (A 0) (x + 2)), vI (rd (A 0) (x + 1)), vR 1], LAY (shA A) (shF F), 113, 2248)) hc169 16 rfl ⟨⟨by ((try rw [e1]); omega), by ((try rw [e1]); omega)⟩, ⟨by ((try rw [e1]); omega), by ((try rw [e1]); omega)⟩, ⟨by ((try rw [e1]); omega), by ((try rw [e1]); omega)⟩, ⟨by ((try rw [e1]); omega), by ((try rw [e1]); omega)⟩, ⟨by ((try rw [e1]); omega), by ((try rw [e1]); omega)⟩, ⟨by ((try rw [e1]); omega), by ((try rw [e1]); omega)⟩, trivial⟩ ?_
          refine R_if (t := 1117) hc169 rfl rfl (fun (c45 : rd (A 0) (x + 3) = 0) => ?_) (fun (c45 : ¬ (rd (A 0) (x + 3) = 0)) => ?_)
          · refine R_s (P := True) (f' := (1118, [some (vR 0), some (vR 1), some (vR 88), some (vI x)], [vI 0, vI (rd (A 0) (x + 2)), vI (rd (A 0) (x + 1)), vR 1], LAY (shA A) (shF F), 113, 2248)) hc169 1 rfl trivial ?_
            refine R_cv hc169 rfl rfl (op_swap hR (by omega) (rd (A 0) (x + 1)) (rd (A 0) (x + 2)) (0) (rd_in hsc _) (rd_in hsc _) ⟨by decide, by decide⟩ (.inl rfl)) (fun r G9 hp9 => ?_)
            obtain ⟨⟨v, rfl⟩, ⟨A1, F1, rfl, e1⟩, hM⟩ := hp9
            refine R_s (f' := (1121, [some (vR 0), some (vR 1), some (vR 88), some (vI x)], [vI v], LAY A1 F1, 113, 2248)) hc169 0 rfl trivial ?_
            refine R_s (P := inI (x + 1) ∧ (0 ≤ x + 1 ∧ x + 1 < ((A1 0).length : Int)) ∧ inI (x + 2) ∧ (0 ≤ x + 2 ∧ x + 2 < ((A1 0).length : Int)) ∧ inI (x + 3) ∧ (0 ≤ x + 3 ∧ x + 3 < ((A1 0).length : Int)) ∧ True) (f' := (1137, [some (vR 0), some (vR 1), some (vR 88), some (vI x)], [vI (rd (A1 0) (x + 3)), vI (rd (A1 0) (x + 2)), vI (rd (A1 0) (x + 1)), vR 88, vI v], LAY A1 F1, 113, 2248)) hc169 16 rfl ⟨⟨by ((try rw [e1]); omega), by ((try rw [e1]); omega)⟩, ⟨by ((try rw [e1]); omega), by ((try rw [e1]); omega)⟩, ⟨by ((try rw [e1]); omega), by ((try rw [e1]); omega)⟩, ⟨by ((try rw [e1]); omega), by ((try rw [e1]); omega)⟩, ⟨by ((try rw [e1]); omega), by ((try rw [e1]); omega)⟩, ⟨by ((try rw [e1]); omega), by ((try rw [e1]); omega)⟩, trivial⟩ ?_
            refine R_if (t := 1144) hc169 rfl rfl (fun (_ : rd (A1 0) (x + 3) = 0) => ?_) (fun (z : ¬ (rd (A1 0) (x + 3) = 0)) => absurd (show rd (A1 0) (x + 3) = 0 by ((try rw [e1]); omega)) z)
            refine R_s (P := True) (f' := (1145, [some (vR 0), some (vR 1), some (vR 88), some (vI x)], [vI 0, vI (rd (A1 0) (x + 2)), vI (rd (A1 0) (x + 1)), vR 88, vI v], LAY A1 F1, 113, 2248)) hc169 1 rfl trivial ?_
            (try rw [e1])
            refine R_cv hc169 rfl rfl hM (fun r G9 hp9 => ?_)
            obtain ⟨rfl, A2, F2, rfl, e2, hR2⟩ := hp9
            refine R_s (f' := (1148, [some (vR 0), some (vR 1), some (vR 88), some (vI x)], [vI v, vI v], LAY (shA A2) (shF F2), 113, 2248)) hc169 0 rfl trivial ?_
            refine R_ic (t := 1301) hc169 rfl rfl (fun (_ : v = v) => ?_) (fun (z : ¬ (v = v)) => absurd (show v = v by ((try rw [e1]); omega)) z)
            refine R_s (P := inI (x + 5) ∧ True) (f' := (18, [some (vR 0), some (vR 1), some (vR 88), some (vI (x + 5))], [], LAY (shA A2) (shF F2), 113, 2248)) hc169 2 rfl ⟨⟨by ((try rw [e1]); omega), by ((try rw [e1]); omega)⟩, trivial⟩ ?_
            exact ih (j + 1) A2 F2 _ (by push_cast; omega) (by rw [e2]; exact e0) (by push_cast; exact hR2) (by push_cast; omega) (by omega)
          · refine R_s (P := True) (f' := (1118, [some (vR 0), some (vR 1), some (vR 88), some (vI x)], [vI 1, vI (rd (A 0) (x + 2)), vI (rd (A 0) (x + 1)), vR 1], LAY (shA A) (shF F), 113, 2248)) hc169 2 rfl trivial ?_
            refine R_cv hc169 rfl rfl (op_swap hR (by omega) (rd (A 0) (x + 1)) (rd (A 0) (x + 2)) (1) (rd_in hsc _) (rd_in hsc _) ⟨by decide, by decide⟩ (.inr rfl)) (fun r G9 hp9 => ?_)
            obtain ⟨⟨v, rfl⟩, ⟨A1, F1, rfl, e1⟩, hM⟩ := hp9
            refine R_s (f' := (1121, [some (vR 0), some (vR 1), some (vR 88), some (vI x)], [vI v], LAY A1 F1, 113, 2248)) hc169 0 rfl trivial ?_
            refine R_s (P := inI (x + 1) ∧ (0 ≤ x + 1 ∧ x + 1 < ((A1 0).length : Int)) ∧ inI (x + 2) ∧ (0 ≤ x + 2 ∧ x + 2 < ((A1 0).length : Int)) ∧ inI (x + 3) ∧ (0 ≤ x + 3 ∧ x + 3 < ((A1 0).length : Int)) ∧ True) (f' := (1137, [some (vR 0), some (vR 1), some (vR 88), some (vI x)], [vI (rd (A1 0) (x + 3)), vI (rd (A1 0) (x + 2)), vI (rd (A1 0) (x + 1)), vR 88, vI v], LAY A1 F1, 113, 2248)) hc169 16 rfl ⟨⟨by ((try rw [e1]); omega), by ((try rw [e1]); omega)⟩, ⟨by ((try rw [e1]); omega), by ((try rw [e1]); omega)⟩, ⟨by ((try rw [e1]); omega), by ((try rw [e1]); omega)⟩, ⟨by ((try rw [e1]); omega), by ((try rw [e1]); omega)⟩, ⟨by ((try rw [e1]); omega), by ((try rw [e1]); omega)⟩, ⟨by ((try rw [e1]); omega), by ((try rw [e1]); omega)⟩, trivial⟩ ?_
            refine R_if (t := 1144) hc169 rfl rfl (fun (z : rd (A1 0) (x + 3) = 0) => absurd z (by ((try rw [e1]); omega))) (fun (_ : ¬ (rd (A1 0) (x + 3) = 0)) => ?_)
            refine R_s (P := True) (f' := (1145, [some (vR 0), some (vR 1), some (vR 88), some (vI x)], [vI 1, vI (rd (A1 0) (x + 2)), vI (rd (A1 0) (x + 1)), vR 88, vI v], LAY A1 F1, 113, 2248)) hc169 2 rfl trivial ?_
            (try rw [e1])
            refine R_cv hc169 rfl rfl hM (fun r G9 hp9 => ?_)
            obtain ⟨rfl, A2, F2, rfl, e2, hR2⟩ := hp9
            refine R_s (f' := (1148, [some (vR 0), some (vR 1), some (vR 88), some (vI x)], [vI v, vI v], LAY (shA A2) (shF F2), 113, 2248)) hc169 0 rfl trivial ?_
            refine R_ic (t := 1301) hc169 rfl rfl (fun (_ : v = v) => ?_) (fun (z : ¬ (v = v)) => absurd (show v = v by ((try rw [e1]); omega)) z)
            refine R_s (P := inI (x + 5) ∧ True) (f' := (18, [some (vR 0), some (vR 1), some (vR 88), some (vI (x + 5))], [], LAY (shA A2) (shF F2), 113, 2248)) hc169 2 rfl ⟨⟨by ((try rw [e1]); omega), by ((try rw [e1]); omega)⟩, trivial⟩ ?_
            exact ih (j + 1) A2 F2 _ (by push_cast; omega) (by rw [e2]; exact e0) (by push_cast; exact hR2) (by push_cast; omega) (by omega)
        | 27, hio, c2 =>
          cases hio
          refine R_s (f' := (1153, [some (vR 0), some (vR 1), some (vR 88), some (vI x)], [], LAY (shA A) (shF F), 113, 2248)) hc169 0 rfl trivial ?_
          refine R_s (P := inI (x + 1) ∧ (0 ≤ x + 1 ∧ x + 1 < ((A 0).length : Int)) ∧ True) (f' := (1159, [some (vR 0), some (vR 1), some (vR 88), some (vI x)], [vI (rd (A 0) (x + 1)), vR 1], LAY (shA A) (shF F), 113, 2248)) hc169 6 rfl ⟨⟨by ((try rw [e1]); omega), by ((try rw [e1]); omega)⟩, ⟨by ((try rw [e1]); omega), by ((try rw [e1]); omega)⟩, trivial⟩ ?_
          refine R_cv hc169 rfl rfl (op_count hR (by omega) (rd (A 0) (x + 1)) (rd_in hsc _)) (fun r G9 hp9 => ?_)
          obtain ⟨⟨v, rfl⟩, ⟨A1, F1, rfl, e1⟩, hM⟩ := hp9
          refine R_s (f' := (1162, [some (vR 0), some (vR 1), some (vR 88), some (vI x)], [vI v], LAY A1 F1, 113, 2248)) hc169 0 rfl trivial ?_
          refine R_s (P := inI (x + 1) ∧ (0 ≤ x + 1 ∧ x + 1 < ((A1 0).length : Int)) ∧ True) (f' := (1168, [some (vR 0), some (vR 1), some (vR 88), some (vI x)], [vI (rd (A1 0) (x + 1)), vR 88, vI v], LAY A1 F1, 113, 2248)) hc169 6 rfl ⟨⟨by ((try rw [e1]); omega), by ((try rw [e1]); omega)⟩, ⟨by ((try rw [e1]); omega), by ((try rw [e1]); omega)⟩, trivial⟩ ?_
          (try rw [e1])
          refine R_cv hc169 rfl rfl hM (fun r G9 hp9 => ?_)
          obtain ⟨rfl, A2, F2, rfl, e2, hR2⟩ := hp9
          refine R_s (f' := (1171, [some (vR 0), some (vR 1), some (vR 88), some (vI x)], [vI v, vI v], LAY (shA A2) (shF F2), 113, 2248)) hc169 0 rfl trivial ?_
          refine R_ic (t := 1301) hc169 rfl rfl (fun (_ : v = v) => ?_) (fun (z : ¬ (v = v)) => absurd (show v = v by ((try rw [e1]); omega)) z)
          refine R_s (P := inI (x + 5) ∧ True) (f' := (18, [some (vR 0), some (vR 1), some (vR 88), some (vI (x + 5))], [], LAY (shA A2) (shF F2), 113, 2248)) hc169 2 rfl ⟨⟨by ((try rw [e1]); omega), by ((try rw [e1]); omega)⟩, trivial⟩ ?_
          exact ih (j + 1) A2 F2 _ (by push_cast; omega) (by rw [e2]; exact e0) (by push_cast; exact hR2) (by push_cast; omega) (by omega)
        | 28, hio, c2 =>
          cases hio
          refine R_s (f' := (1176, [some (vR 0), some (vR 1), some (vR 88), some (vI x)], [], LAY (shA A) (shF F), 113, 2248)) hc169 0 rfl trivial ?_
          refine R_s (P := inI (x + 1) ∧ (0 ≤ x + 1 ∧ x + 1 < ((A 0).length : Int)) ∧ True) (f' := (1182, [some (vR 0), some (vR 1), some (vR 88), some (vI x)], [vI (rd (A 0) (x + 1)), vR 1], LAY (shA A) (shF F), 113, 2248)) hc169 6 rfl ⟨⟨by ((try rw [e1]); omega), by ((try rw [e1]); omega)⟩, ⟨by ((try rw [e1]); omega), by ((try rw [e1]); omega)⟩, trivial⟩ ?_
          refine R_cv hc169 rfl rfl (op_lay hR (by omega) (rd (A 0) (x + 1)) (rd_in hsc _)) (fun r G9 hp9 => ?_)
          obtain ⟨⟨v, rfl⟩, ⟨A1, F1, rfl, e1⟩, hM⟩ := hp9
          refine R_s (f' := (1185, [some (vR 0), some (vR 1), some (vR 88), some (vI x)], [vI v], LAY A1 F1, 113, 2248)) hc169 0 rfl trivial ?_
          refine R_s (P := inI (x + 1) ∧ (0 ≤ x + 1 ∧ x + 1 < ((A1 0).length : Int)) ∧ True) (f' := (1191, [some (vR 0), some (vR 1), some (vR 88), some (vI x)], [vI (rd (A1 0) (x + 1)), vR 88, vI v], LAY A1 F1, 113, 2248)) hc169 6 rfl ⟨⟨by ((try rw [e1]); omega), by ((try rw [e1]); omega)⟩, ⟨by ((try rw [e1]); omega), by ((try rw [e1]); omega)⟩, trivial⟩ ?_
          (try rw [e1])
          refine R_cv hc169 rfl rfl hM (fun r G9 hp9 => ?_)
          obtain ⟨rfl, A2, F2, rfl, e2, hR2⟩ := hp9
          refine R_s (f' := (1194, [some (vR 0), some (vR 1), some (vR 88), some (vI x)], [vI v, vI v], LAY (shA A2) (shF F2), 113, 2248)) hc169 0 rfl trivial ?_
          refine R_ic (t := 1301) hc169 rfl rfl (fun (_ : v = v) => ?_) (fun (z : ¬ (v = v)) => absurd (show v = v by ((try rw [e1]); omega)) z)
          refine R_s (P := inI (x + 5) ∧ True) (f' := (18, [some (vR 0), some (vR 1), some (vR 88), some (vI (x + 5))], [], LAY (shA A2) (shF F2), 113, 2248)) hc169 2 rfl ⟨⟨by ((try rw [e1]); omega), by ((try rw [e1]); omega)⟩, trivial⟩ ?_
          exact ih (j + 1) A2 F2 _ (by push_cast; omega) (by rw [e2]; exact e0) (by push_cast; exact hR2) (by push_cast; omega) (by omega)
        | 29, hio, c2 =>
          cases hio
          refine R_s (f' := (1199, [some (vR 0), some (vR 1), some (vR 88), some (vI x)], [], LAY (shA A) (shF F), 113, 2248)) hc169 0 rfl trivial ?_
          refine R_s (P := True) (f' := (1200, [some (vR 0), some (vR 1), some (vR 88), some (vI x)], [vR 1], LAY (shA A) (shF F), 113, 2248)) hc169 1 rfl trivial ?_
          refine R_cv hc169 rfl rfl (op_tear hR (by omega)  ) (fun r G9 hp9 => ?_)
          obtain ⟨⟨v, rfl⟩, ⟨A1, F1, rfl, e1⟩, hM⟩ := hp9
          refine R_s (f' := (1203, [some (vR 0), some (vR 1), some (vR 88), some (vI x)], [vI v], LAY A1 F1, 113, 2248)) hc169 0 rfl trivial ?_
          refine R_s (P := True) (f' := (1204, [some (vR 0), some (vR 1), some (vR 88), some (vI x)], [vR 88, vI v], LAY A1 F1, 113, 2248)) hc169 1 rfl trivial ?_
          (try rw [e1])
          refine R_cv hc169 rfl rfl hM (fun r G9 hp9 => ?_)
          obtain ⟨rfl, A2, F2, rfl, e2, hR2⟩ := hp9
          refine R_s (f' := (1207, [some (vR 0), some (vR 1), some (vR 88), some (vI x)], [vI v, vI v], LAY (shA A2) (shF F2), 113, 2248)) hc169 0 rfl trivial ?_
          refine R_ic (t := 1301) hc169 rfl rfl (fun (_ : v = v) => ?_) (fun (z : ¬ (v = v)) => absurd (show v = v by ((try rw [e1]); omega)) z)
          refine R_s (P := inI (x + 5) ∧ True) (f' := (18, [some (vR 0), some (vR 1), some (vR 88), some (vI (x + 5))], [], LAY (shA A2) (shF F2), 113, 2248)) hc169 2 rfl ⟨⟨by ((try rw [e1]); omega), by ((try rw [e1]); omega)⟩, trivial⟩ ?_
          exact ih (j + 1) A2 F2 _ (by push_cast; omega) (by rw [e2]; exact e0) (by push_cast; exact hR2) (by push_cast; omega) (by omega)
        | 30, hio, c2 =>
          cases hio
          refine R_s (f' := (1212, [some (vR 0), some (vR 1), some (vR 88), some (vI x)], [], LAY (shA A) (shF F), 113, 2248)) hc169 0 rfl trivial ?_
          refine R_s (P := inI (x + 1) ∧ (0 ≤ x + 1 ∧ x + 1 < ((A 0).length : Int)) ∧ True) (f' := (1218, [some (vR 0), some (vR 1), some (vR 88), some (vI x)], [vI (rd (A 0) (x + 1)), vR 1], LAY (shA A) (shF F), 113, 2248)) hc169 6 rfl ⟨⟨by ((try rw [e1]); omega), by ((try rw [e1]); omega)⟩, ⟨by ((try rw [e1]); omega), by ((try rw [e1]); omega)⟩, trivial⟩ ?_
          refine R_cv hc169 rfl rfl (op_row hR (by omega) (rd (A 0) (x + 1)) (rd_in hsc _)) (fun r G9 hp9 => ?_)
          obtain ⟨⟨v, rfl⟩, ⟨A1, F1, rfl, e1⟩, hM⟩ := hp9
          refine R_s (f' := (1221, [some (vR 0), some (vR 1), some (vR 88), some (vI x)], [vI v], LAY A1 F1, 113, 2248)) hc169 0 rfl trivial ?_
          refine R_s (P := inI (x + 1) ∧ (0 ≤ x + 1 ∧ x + 1 < ((A1 0).length : Int)) ∧ True) (f' := (1227, [some (vR 0), some (vR 1), some (vR 88), some (vI x)], [vI (rd (A1 0) (x + 1)), vR 88, vI v], LAY A1 F1, 113, 2248)) hc169 6 rfl ⟨⟨by ((try rw [e1]); omega), by ((try rw [e1]); omega)⟩, ⟨by ((try rw [e1]); omega), by ((try rw [e1]); omega)⟩, trivial⟩ ?_
          (try rw [e1])
          refine R_cv hc169 rfl rfl hM (fun r G9 hp9 => ?_)
          obtain ⟨rfl, A2, F2, rfl, e2, hR2⟩ := hp9
          refine R_s (f' := (1230, [some (vR 0), some (vR 1), some (vR 88), some (vI x)], [vI v, vI v], LAY (shA A2) (shF F2), 113, 2248)) hc169 0 rfl trivial ?_
          refine R_ic (t := 1301) hc169 rfl rfl (fun (_ : v = v) => ?_) (fun (z : ¬ (v = v)) => absurd (show v = v by ((try rw [e1]); omega)) z)
          refine R_s (P := inI (x + 5) ∧ True) (f' := (18, [some (vR 0), some (vR 1), some (vR 88), some (vI (x + 5))], [], LAY (shA A2) (shF F2), 113, 2248)) hc169 2 rfl ⟨⟨by ((try rw [e1]); omega), by ((try rw [e1]); omega)⟩, trivial⟩ ?_
          exact ih (j + 1) A2 F2 _ (by push_cast; omega) (by rw [e2]; exact e0) (by push_cast; exact hR2) (by push_cast; omega) (by omega)
        | 31, hio, c2 =>
          cases hio
          refine R_s (f' := (1235, [some (vR 0), some (vR 1), some (vR 88), some (vI x)], [], LAY (shA A) (shF F), 113, 2248)) hc169 0 rfl trivial ?_
          refine R_s (P := inI (x + 1) ∧ (0 ≤ x + 1 ∧ x + 1 < ((A 0).length : Int)) ∧ inI (x + 2) ∧ (0 ≤ x + 2 ∧ x + 2 < ((A 0).length : Int)) ∧ inI (x + 3) ∧ (0 ≤ x + 3 ∧ x + 3 < ((A 0).length : Int)) ∧ True) (f' := (1251, [some (vR 0), some (vR 1), some (vR 88), some (vI x)], [vI (rd (A 0) (x + 3)), vI (rd (A 0) (x + 2)), vI (rd (A 0) (x + 1)), vR 1], LAY (shA A) (shF F), 113, 2248)) hc169 16 rfl ⟨⟨by ((try rw [e1]); omega), by ((try rw [e1]); omega)⟩, ⟨by ((try rw [e1]); omega), by ((try rw [e1]); omega)⟩, ⟨by ((try rw [e1]); omega), by ((try rw [e1]); omega)⟩, ⟨by ((try rw [e1]); omega), by ((try rw [e1]); omega)⟩, ⟨by ((try rw [e1]); omega), by ((try rw [e1]); omega)⟩, ⟨by ((try rw [e1]); omega), by ((try rw [e1]); omega)⟩, trivial⟩ ?_
          refine R_cv hc169 rfl rfl (op_copy hR (by omega) (rd (A 0) (x + 1)) (rd (A 0) (x + 2)) (rd (A 0) (x + 3)) (rd_in hsc _) (rd_in hsc _) (rd_in hsc _)) (fun r G9 hp9 => ?_)
          obtain ⟨⟨v, rfl⟩, ⟨A1, F1, rfl, e1⟩, hM⟩ := hp9
          refine R_s (f' := (1254, [some (vR 0), some (vR 1), some (vR 88), some (vI x)], [vI v], LAY A1 F1, 113, 2248)) hc169 0 rfl trivial ?_
          refine R_s (P := inI (x + 1) ∧ (0 ≤ x + 1 ∧ x + 1 < ((A1 0).length : Int)) ∧ inI (x + 2) ∧ (0 ≤ x + 2 ∧ x + 2 < ((A1 0).length : Int)) ∧ inI (x + 3) ∧ (0 ≤ x + 3 ∧ x + 3 < ((A1 0).length : Int)) ∧ True) (f' := (1270, [some (vR 0), some (vR 1), some (vR 88), some (vI x)], [vI (rd (A1 0) (x + 3)), vI (rd (A1 0) (x + 2)), vI (rd (A1 0) (x + 1)), vR 88, vI v], LAY A1 F1, 113, 2248)) hc169 16 rfl ⟨⟨by ((try rw [e1]); omega), by ((try rw [e1]); omega)⟩, ⟨by ((try rw [e1]); omega), by ((try rw [e1]); omega)⟩, ⟨by ((try rw [e1]); omega), by ((try rw [e1]); omega)⟩, ⟨by ((try rw [e1]); omega), by ((try rw [e1]); omega)⟩, ⟨by ((try rw [e1]); omega), by ((try rw [e1]); omega)⟩, ⟨by ((try rw [e1]); omega), by ((try rw [e1]); omega)⟩, trivial⟩ ?_
          (try rw [e1])
          refine R_cv hc169 rfl rfl hM (fun r G9 hp9 => ?_)
          obtain ⟨rfl, A2, F2, rfl, e2, hR2⟩ := hp9
          refine R_s (f' := (1273, [some (vR 0), some (vR 1), some (vR 88), some (vI x)], [vI v, vI v], LAY (shA A2) (shF F2), 113, 2248)) hc169 0 rfl trivial ?_
          refine R_ic (t := 1301) hc169 rfl rfl (fun (_ : v = v) => ?_) (fun (z : ¬ (v = v)) => absurd (show v = v by ((try rw [e1]); omega)) z)
          refine R_s (P := inI (x + 5) ∧ True) (f' := (18, [some (vR 0), some (vR 1), some (vR 88), some (vI (x + 5))], [], LAY (shA A2) (shF F2), 113, 2248)) hc169 2 rfl ⟨⟨by ((try rw [e1]); omega), by ((try rw [e1]); omega)⟩, trivial⟩ ?_
          exact ih (j + 1) A2 F2 _ (by push_cast; omega) (by rw [e2]; exact e0) (by push_cast; exact hR2) (by push_cast; omega) (by omega)
        | 32, hio, c2 =>
          cases hio
          refine R_s (f' := (1278, [some (vR 0), some (vR 1), some (vR 88), some (vI x)], [], LAY (shA A) (shF F), 113, 2248)) hc169 0 rfl trivial ?_
          refine R_s (P := inI (x + 1) ∧ (0 ≤ x + 1 ∧ x + 1 < ((A 0).length : Int)) ∧ True) (f' := (1284, [some (vR 0), some (vR 1), some (vR 88), some (vI x)], [vI (rd (A 0) (x + 1)), vR 1], LAY (shA A) (shF F), 113, 2248)) hc169 6 rfl ⟨⟨by ((try rw [e1]); omega), by ((try rw [e1]); omega)⟩, ⟨by ((try rw [e1]); omega), by ((try rw [e1]); omega)⟩, trivial⟩ ?_
          refine R_cv hc169 rfl rfl (op_status hR (by omega) (rd (A 0) (x + 1)) (rd_in hsc _)) (fun r G9 hp9 => ?_)
          obtain ⟨⟨v, rfl⟩, ⟨A1, F1, rfl, e1⟩, hM⟩ := hp9
          refine R_s (f' := (1287, [some (vR 0), some (vR 1), some (vR 88), some (vI x)], [vI v], LAY A1 F1, 113, 2248)) hc169 0 rfl trivial ?_
          refine R_s (P := inI (x + 1) ∧ (0 ≤ x + 1 ∧ x + 1 < ((A1 0).length : Int)) ∧ True) (f' := (1293, [some (vR 0), some (vR 1), some (vR 88), some (vI x)], [vI (rd (A1 0) (x + 1)), vR 88, vI v], LAY A1 F1, 113, 2248)) hc169 6 rfl ⟨⟨by ((try rw [e1]); omega), by ((try rw [e1]); omega)⟩, ⟨by ((try rw [e1]); omega), by ((try rw [e1]); omega)⟩, trivial⟩ ?_
          (try rw [e1])
          refine R_cv hc169 rfl rfl hM (fun r G9 hp9 => ?_)
          obtain ⟨rfl, A2, F2, rfl, e2, hR2⟩ := hp9
          refine R_s (f' := (1296, [some (vR 0), some (vR 1), some (vR 88), some (vI x)], [vI v, vI v], LAY (shA A2) (shF F2), 113, 2248)) hc169 0 rfl trivial ?_
          refine R_ic (t := 1301) hc169 rfl rfl (fun (_ : v = v) => ?_) (fun (z : ¬ (v = v)) => absurd (show v = v by ((try rw [e1]); omega)) z)
          refine R_s (P := inI (x + 5) ∧ True) (f' := (18, [some (vR 0), some (vR 1), some (vR 88), some (vI (x + 5))], [], LAY (shA A2) (shF F2), 113, 2248)) hc169 2 rfl ⟨⟨by ((try rw [e1]); omega), by ((try rw [e1]); omega)⟩, trivial⟩ ?_
          exact ih (j + 1) A2 F2 _ (by push_cast; omega) (by rw [e2]; exact e0) (by push_cast; exact hR2) (by push_cast; omega) (by omega)
        | isw + 33, hio, c2 => exact absurd hio (by simp)
      · refine R_s (P := inI (x + 5) ∧ True) (f' := (18, [some (vR 0), some (vR 1), some (vR 88), some (vI (x + 5))], [], LAY (shA A) (shF F), 113, 2248)) hc169 2 rfl ⟨⟨by ((try rw [e1]); omega), by ((try rw [e1]); omega)⟩, trivial⟩ ?_
        exact ih (j + 1) A F _ (by push_cast; omega) e0 (by push_cast; exact REL_c hR) (by push_cast; omega) (by omega)

theorem am_law : LAWRUN := by
  intro sc hlen hsc
  obtain ⟨n, r, G', h1, h2⟩ := law_init (sc := sc) (post := fun r _ => r = some (vI 1)) (by
    refine R_s (f' := (18, [some (vR 0), some (vR 1), some (vR 88), some (vI 0)], [], LAY (shA (initA sc)) (shF initF), 113, 2248)) hc169 0 rfl trivial ?_
    exact law_loop hlen hsc 513 0 (initA sc) initF 0 rfl rfl (REL_init sc) (by omega) (by omega))
  have h3 : r = some (vI 1) := h2
  subst h3
  exact ⟨n, G', h1⟩

