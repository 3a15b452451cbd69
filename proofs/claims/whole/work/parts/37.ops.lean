theorem lay_C {A : Nat → List Int} {F : Nat → Int} {n : Nat} (hn : (n : Int) = F 3) (hn30 : n ≤ 30) (h77 : (A 77).length = 30) (h86 : (A 86).length = 30) {dd : Int} {dv : Option AV} {post : Option AV → AG → Prop} (hk : ∀ (x : Int) (l : List Int), l.length = 30 → (∀ p : Nat, p < n → rd l p = rd (A 77) p) → (∀ p : Nat, n ≤ p → rd l p = rd (A 86) p) → R 88 (57, [some (vR 1), some (vI dd), dv, some (vI x)], [], LAY (u A 86 l) F, 0, 0) post) : R 88 (25, [some (vR 1), some (vI dd), dv, some (vI 0)], [], LAY A F, 0, 0) post := by
  have lp : ∀ (m i : Nat) (x : Int) (l : List Int), x = (i : Int) → l.length = 30 → (∀ p : Nat, p < i → rd l p = rd (A 77) p) → (∀ p : Nat, i ≤ p → rd l p = rd (A 86) p) → i ≤ n → n + 1 ≤ i + m → R 88 (25, [some (vR 1), some (vI dd), dv, some (vI x)], [], LAY (u A 86 l) F, 0, 0) post := by
    intro m
    induction m with
    | zero =>
      intro i x l ex hl hz hy hi hm
      exact absurd hm (by omega)
    | succ m ih =>
      intro i x l ex hl hz hy hi hm
      refine R_s (P := True) (f' := (33, [some (vR 1), some (vI dd), dv, some (vI x)], [vI (F 3), vI x], LAY (u A 86 l) F, 0, 0)) hc88 4 rfl trivial ?_
      refine R_ic (t := 57) hc88 rfl rfl (fun (c1 : F 3 ≤ x) => ?_) (fun (c1 : ¬ (F 3 ≤ x)) => ?_)
      · exact hk x l hl (fun p hp => hz p (by omega)) (fun p hp => hy p (by omega))
      · refine R_s (P := (0 ≤ x ∧ x < ((A 77).length : Int)) ∧ (0 ≤ x ∧ x < ((l).length : Int)) ∧ inI (x + 1) ∧ True) (f' := (25, [some (vR 1), some (vI dd), dv, some (vI (x + 1))], [], LAY (u A 86 (wr l x (rd (A 77) x))) F, 0, 0)) hc88 11 rfl ⟨⟨by omega, by omega⟩, ⟨by omega, by omega⟩, ⟨by omega, by omega⟩, trivial⟩ ?_
        refine ih (i + 1) _ _ (by omega) (by rw [wr_len]; exact hl) (fun p hp => ?_) (fun p hp => ?_) (by omega) (by omega)
        · rw [rd_wr (by omega) (by omega) (by omega)]
          split
          · rename_i q
            rw [q]
          · exact hz p (by omega)
        · rw [rd_wr (by omega) (by omega) (by omega), if_neg (by omega)]
          exact hy p (by omega)
  refine R_s (P := True) (f' := (25, [some (vR 1), some (vI dd), dv, some (vI 0)], [], LAY (u A 86 (A 86)) F, 0, 0)) hc88 0 (by rw [u_self]; rfl) trivial ?_
  exact lp (n + 1) 0 _ _ rfl h86 (fun p hp => absurd hp (by omega)) (fun p _ => rfl) (by omega) (by omega)

theorem lay_M {A : Nat → List Int} {F : Nat → Int} {n : Nat} (hn : (n : Int) = F 19) (hn30 : n ≤ 30) (h108 : (A 108).length = 30) (h112 : (A 112).length = 30) {dd : Int} {post : Option AV → AG → Prop} (hk : ∀ (x : Int) (l : List Int), l.length = 30 → (∀ p : Nat, p < n → rd l p = rd (A 108) p) → (∀ p : Nat, n ≤ p → rd l p = rd (A 112) p) → R 164 (56, [some (vR 88), some (vI dd), some (vI x)], [], LAY (u A 112 l) F, 0, 0) post) : R 164 (30, [some (vR 88), some (vI dd), some (vI 0)], [], LAY A F, 0, 0) post := by
  have lp : ∀ (m i : Nat) (x : Int) (l : List Int), x = (i : Int) → l.length = 30 → (∀ p : Nat, p < i → rd l p = rd (A 108) p) → (∀ p : Nat, i ≤ p → rd l p = rd (A 112) p) → i ≤ n → n + 1 ≤ i + m → R 164 (30, [some (vR 88), some (vI dd), some (vI x)], [], LAY (u A 112 l) F, 0, 0) post := by
    intro m
    induction m with
    | zero =>
      intro i x l ex hl hz hy hi hm
      exact absurd hm (by omega)
    | succ m ih =>
      intro i x l ex hl hz hy hi hm
      refine R_s (P := True) (f' := (35, [some (vR 88), some (vI dd), some (vI x)], [vI (F 19), vI x], LAY (u A 112 l) F, 0, 0)) hc164 3 rfl trivial ?_
      refine R_ic (t := 56) hc164 rfl rfl (fun (c1 : F 19 ≤ x) => ?_) (fun (c1 : ¬ (F 19 ≤ x)) => ?_)
      · exact hk x l hl (fun p hp => hz p (by omega)) (fun p hp => hy p (by omega))
      · refine R_s (P := (0 ≤ x ∧ x < ((A 108).length : Int)) ∧ (0 ≤ x ∧ x < ((l).length : Int)) ∧ inI (x + 1) ∧ True) (f' := (30, [some (vR 88), some (vI dd), some (vI (x + 1))], [], LAY (u A 112 (wr l x (rd (A 108) x))) F, 0, 0)) hc164 10 rfl ⟨⟨by omega, by omega⟩, ⟨by omega, by omega⟩, ⟨by omega, by omega⟩, trivial⟩ ?_
        refine ih (i + 1) _ _ (by omega) (by rw [wr_len]; exact hl) (fun p hp => ?_) (fun p hp => ?_) (by omega) (by omega)
        · rw [rd_wr (by omega) (by omega) (by omega)]
          split
          · rename_i q
            rw [q]
          · exact hz p (by omega)
        · rw [rd_wr (by omega) (by omega) (by omega), if_neg (by omega)]
          exact hy p (by omega)
  refine R_s (P := True) (f' := (30, [some (vR 88), some (vI dd), some (vI 0)], [], LAY (u A 112 (A 112)) F, 0, 0)) hc164 0 (by rw [u_self]; rfl) trivial ?_
  exact lp (n + 1) 0 _ _ rfl h112 (fun p hp => absurd hp (by omega)) (fun p _ => rfl) (by omega) (by omega)

theorem count_M5 {A : Nat → List Int} {F : Nat → Int} {n : Nat} (hn : (n : Int) = F 19) (hn30 : n ≤ 30) (h91 : (A 91).length = 30) (h92 : (A 92).length = 30) (h93 : (A 93).length = 30) (h94 : (A 94).length = 30) (hU : ∀ p : Nat, p < n → rd (A 93) p = 0 ∨ rd (A 93) p = 1) (hTk : ∀ p : Nat, p < n → rd (A 94) p = 0 ∨ rd (A 94) p = 1) {al : Nat → Int} (hal : ∀ p : Nat, p < n → al p = LV (F 18) (A 91) (A 93) (A 92) (fun p => rd (A 94) p) p) {w : Int} : R 163 (75, [some (vR 88), some (vI w), some (vI 0), some (vI 0)], [], LAY A F, 0, 0) (fun r G => r = some (vI (sm al n)) ∧ G = LAY A F) := by
  have ha : ∀ p : Nat, p < n → al p = 0 ∨ al p = 1 := fun p hp => by
    rw [hal p hp]
    exact LV_01 (hTk p hp)
  have lp : ∀ (m i : Nat) (x : Int) (s : Int), x = (i : Int) → s = sm al i → i ≤ n → n + 1 ≤ i + m → R 163 (75, [some (vR 88), some (vI w), some (vI s), some (vI x)], [], LAY A F, 0, 0) (fun r G => r = some (vI (sm al n)) ∧ G = LAY A F) := by
    intro m
    induction m with
    | zero =>
      intro i x s ex es hi hm
      exact absurd hm (by omega)
    | succ m ih =>
      intro i x s ex es hi hm
      have hbd := sm_bd (g := al) (b := 1) i (fun j hj => by have := ha j (by omega); omega)
      rw [← es] at hbd
      have g := ha i
      refine R_s (P := True) (f' := (80, [some (vR 88), some (vI w), some (vI s), some (vI x)], [vI (F 19), vI x], LAY A F, 0, 0)) hc163 3 rfl trivial ?_
      refine R_ic (t := 105) hc163 rfl rfl (fun (c1 : F 19 ≤ x) => ?_) (fun (c1 : ¬ (F 19 ≤ x)) => ?_)
      · refine R_s (P := True) (f' := (106, [some (vR 88), some (vI w), some (vI s), some (vI x)], [vI s], LAY A F, 0, 0)) hc163 1 rfl trivial ?_
        exact R_reti hc163 rfl rfl ⟨by rw [es, show i = n by omega], rfl⟩
      · refine R_s (P := True) (f' := (86, [some (vR 88), some (vI w), some (vI s), some (vI x)], [vI x, vR 88, vI s], LAY A F, 0, 0)) hc163 3 rfl trivial ?_
        refine R_cv hc163 rfl rfl (l_lives (A := A) (F := F) hn hn30 h91 h92 h93 h94 hU hTk hal (k := i) ex (by omega)) (fun r G9 hp9 => ?_)
        obtain ⟨rfl, rfl⟩ := hp9
        refine R_s (f' := (89, [some (vR 88), some (vI w), some (vI s), some (vI x)], [vI (al i), vI s], LAY A F, 0, 0)) hc163 0 rfl trivial ?_
        refine R_if (t := 96) hc163 rfl rfl (fun (c2 : al i = 0) => ?_) (fun (c2 : ¬ (al i = 0)) => ?_)
        · refine R_s (P := inI (s + 0) ∧ inI (x + 1) ∧ True) (f' := (75, [some (vR 88), some (vI w), some (vI (s + 0)), some (vI (x + 1))], [], LAY A F, 0, 0)) hc163 5 rfl ⟨⟨by omega, by omega⟩, ⟨by omega, by omega⟩, trivial⟩ ?_
          refine ih (i + 1) _ _ (by omega) ?_ (by omega) (by omega)
          simp only [sm]
          rw [← es]
          have g1 := g (by omega)
          omega
        · refine R_s (P := inI (s + 1) ∧ inI (x + 1) ∧ True) (f' := (75, [some (vR 88), some (vI w), some (vI (s + 1)), some (vI (x + 1))], [], LAY A F, 0, 0)) hc163 6 rfl ⟨⟨by omega, by omega⟩, ⟨by omega, by omega⟩, trivial⟩ ?_
          refine ih (i + 1) _ _ (by omega) ?_ (by omega) (by omega)
          simp only [sm]
          rw [← es]
          have g1 := g (by omega)
          omega
  exact lp (n + 1) 0 _ _ rfl rfl (by omega) (by omega)

theorem count_M6 {A : Nat → List Int} {F : Nat → Int} (hn : 0 ≤ F 22 ∧ F 22 ≤ 30) (h103 : (A 103).length = 30) {w : Int} : R 163 (109, [some (vR 88), some (vI w), some (vI 0), some (vI 0)], [], LAY A F, 0, 0) (fun r G => r = some (vI (sm (fun i => if rd (A 103) i = 0 then 0 else 1) (F 22).toNat)) ∧ G = LAY A F) := by
  have lp : ∀ (m i : Nat) (x : Int) (s : Int), x = (i : Int) → s = sm (fun i => if rd (A 103) i = 0 then 0 else 1) i → i ≤ (F 22).toNat → (F 22).toNat + 1 ≤ i + m → R 163 (109, [some (vR 88), some (vI w), some (vI s), some (vI x)], [], LAY A F, 0, 0) (fun r G => r = some (vI (sm (fun i => if rd (A 103) i = 0 then 0 else 1) (F 22).toNat)) ∧ G = LAY A F) := by
    intro m
    induction m with
    | zero =>
      intro i x s ex es hi hm
      exact absurd hm (by omega)
    | succ m ih =>
      intro i x s ex es hi hm
      have hbd := sm_bd (g := fun i => if rd (A 103) i = 0 then 0 else 1) (b := 1) i (fun j hj => by (try dsimp only); split <;> omega)
      rw [← es] at hbd
      refine R_s (P := True) (f' := (114, [some (vR 88), some (vI w), some (vI s), some (vI x)], [vI (F 22), vI x], LAY A F, 0, 0)) hc163 3 rfl trivial ?_
      refine R_ic (t := 140) hc163 rfl rfl (fun (c1 : F 22 ≤ x) => ?_) (fun (c1 : ¬ (F 22 ≤ x)) => ?_)
      · refine R_s (P := True) (f' := (141, [some (vR 88), some (vI w), some (vI s), some (vI x)], [vI s], LAY A F, 0, 0)) hc163 1 rfl trivial ?_
        exact R_reti hc163 rfl rfl ⟨by rw [es, show i = (F 22).toNat by omega], rfl⟩
      · refine R_s (P := (0 ≤ x ∧ x < ((A 103).length : Int)) ∧ True) (f' := (124, [some (vR 88), some (vI w), some (vI s), some (vI x)], [vI (rd (A 103) x), vI s], LAY A F, 0, 0)) hc163 5 rfl ⟨⟨by omega, by omega⟩, trivial⟩ ?_
        refine R_if (t := 131) hc163 rfl rfl (fun (c2 : rd (A 103) x = 0) => ?_) (fun (c2 : ¬ (rd (A 103) x = 0)) => ?_)
        · refine R_s (P := inI (s + 0) ∧ inI (x + 1) ∧ True) (f' := (109, [some (vR 88), some (vI w), some (vI (s + 0)), some (vI (x + 1))], [], LAY A F, 0, 0)) hc163 5 rfl ⟨⟨by omega, by omega⟩, ⟨by omega, by omega⟩, trivial⟩ ?_
          refine ih (i + 1) _ _ (by omega) ?_ (by omega) (by omega)
          simp only [sm]
          rw [← es, ← ex]
          split <;> omega
        · refine R_s (P := inI (s + 1) ∧ inI (x + 1) ∧ True) (f' := (109, [some (vR 88), some (vI w), some (vI (s + 1)), some (vI (x + 1))], [], LAY A F, 0, 0)) hc163 6 rfl ⟨⟨by omega, by omega⟩, ⟨by omega, by omega⟩, trivial⟩ ?_
          refine ih (i + 1) _ _ (by omega) ?_ (by omega) (by omega)
          simp only [sm]
          rw [← es, ← ex]
          split <;> omega
  exact lp ((F 22).toNat + 1) 0 _ _ rfl rfl (by omega) (by omega)

set_option maxHeartbeats 4000000 in
theorem op_look {c : Int} {A : Nat → List Int} {F : Nat → Int} (hR : REL c A F) (hc : c < 512) (p q : Int) (i_p : inI p) (i_q : inI q) : R 64 (0, L0 64 [vR 1, vI p, vI q], [], LAY (shA A) (shF F), 0, 0) (fun r G => (∃ x, r = some (vI x)) ∧ (∃ (A1 : Nat → List Int) (F1 : Nat → Int), G = LAY A1 F1 ∧ A1 0 = A 0) ∧ R 118 (0, L0 118 [vR 88, vI p, vI q], [], G, 0, 0) (fun r2 G2 => r2 = r ∧ ∃ (A' : Nat → List Int) (F' : Nat → Int), G2 = LAY (shA A') (shF F') ∧ A' 0 = A 0 ∧ REL (c + 1) A' F')) := by
  have hR0 := hR
  obtain ⟨hL, hPE, hTH, hTP, hDE, hLE, hNO, hAC, hRO, hRE⟩ := hR
  have j_p := i_p
  unfold inI at j_p
  have j_q := i_q
  unfold inI at j_q
  have h87 : (A 87).length = 9 := hL 87 (by decide)
  have h3 : (A 3).length = 30 := hL 3 (by decide)
  have h4 : (A 4).length = 30 := hL 4 (by decide)
  have h5 : (A 5).length = 30 := hL 5 (by decide)
  have h6 : (A 6).length = 30 := hL 6 (by decide)
  have h8 : (A 8).length = 30 := hL 8 (by decide)
  have h9 : (A 9).length = 30 := hL 9 (by decide)
  have r2 := REFU_at hRE (k := 2) (by decide) (by decide) hc
  have r3 := REFU_at hRE (k := 3) (by decide) (by decide) hc
  have r4 := REFU_at hRE (k := 4) (by decide) (by decide) hc
  have r5 := REFU_at hRE (k := 5) (by decide) (by decide) hc
  have r6 := REFU_at hRE (k := 6) (by decide) (by decide) hc
  have r7 := REFU_at hRE (k := 7) (by decide) (by decide) hc
  have r8 := REFU_at hRE (k := 8) (by decide) (by decide) hc
  obtain ⟨t1, t2, t3, t4, t5, t6⟩ := hTH
  obtain ⟨p1, p2, p3, p4, p5, p6⟩ := hPE
  have q3 := p3 p
  have q4 := p4 p
  refine R_s (P := True) (f' := (5, [some (vR 1), some (vI p), some (vI q)], [vI p, vR 2], LAY (shA A) (shF F), 0, 0)) hc64 3 rfl trivial ?_
  refine R_cv hc64 rfl rfl ?_ (fun r G h => h)
  refine R_s (P := True) (f' := (1, [some (vR 2), some (vI p)], [vI p], LAY (shA A) (shF F), 0, 0)) hc5 1 rfl trivial ?_
  refine R_if (t := 16) hc5 rfl rfl (fun (c1 : p < 0) => ?_) (fun (c1 : ¬ (p < 0)) => ?_)
  · refine R_s (P := True) (f' := (17, [some (vR 2), some (vI p)], [vI 0], LAY (shA A) (shF F), 0, 0)) hc5 1 rfl trivial ?_
    refine R_retz hc5 rfl rfl (Or.inl rfl) ?_
    refine R_s (f' := (8, [some (vR 1), some (vI p), some (vI q)], [vI 0], LAY (shA A) (shF F), 0, 0)) hc64 0 rfl trivial ?_
    refine R_if (t := 18) hc64 rfl rfl (fun (z : ¬ 0 = 0) => absurd z (by decide)) (fun (_ : ¬ (¬ 0 = 0)) => ?_)
    refine R_s (P := True) (f' := (14, [some (vR 1), some (vI p), some (vI q)], [vI (-3), vR 1], LAY (shA A) (shF F), 0, 0)) hc64 2 rfl trivial ?_
    refine R_cv hc64 rfl rfl ?_ (fun r G h => h)
    refine R_s (P := True) (f' := (3, [some (vR 1), some (vI (-3))], [vI (-2), vI (-3)], LAY (shA A) (shF F), 0, 0)) hc93 2 rfl trivial ?_
    refine R_ic (t := 23) hc93 rfl rfl (fun (z : (-2) < (-3)) => absurd z (by decide)) (fun (_ : ¬ ((-2) < (-3))) => ?_)
    refine R_s (P := True) (f' := (9, [some (vR 1), some (vI (-3))], [vI (-8), vI (-3)], LAY (shA A) (shF F), 0, 0)) hc93 2 rfl trivial ?_
    refine R_ic (t := 23) hc93 rfl rfl (fun (z : (-3) < (-8)) => absurd z (by decide)) (fun (_ : ¬ ((-3) < (-8))) => ?_)
    refine R_s (P := inI 3 ∧ (0 ≤ 3 ∧ 3 < ((A 87).length : Int)) ∧ inI ((rd (A 87) 3) + 1) ∧ (0 ≤ 3 ∧ 3 < ((A 87).length : Int)) ∧ True) (f' := (24, [some (vR 1), some (vI (-3))], [vI (-3)], LAY (u (shA A) 87 (wr (A 87) 3 ((rd (A 87) 3) + 1))) (shF F), 0, 0)) hc93 10 rfl ⟨⟨by omega, by omega⟩, ⟨by omega, by omega⟩, ⟨by omega, by omega⟩, ⟨by omega, by omega⟩, trivial⟩ ?_
    refine R_reti hc93 rfl rfl ?_
    refine R_s (f' := (17, [some (vR 1), some (vI p), some (vI q)], [vI (-3)], LAY (u (shA A) 87 (wr (A 87) 3 ((rd (A 87) 3) + 1))) (shF F), 0, 0)) hc64 0 rfl trivial ?_
    refine R_reti hc64 rfl rfl ⟨⟨_, rfl⟩, ⟨_, _, rfl, rfl⟩, ?_⟩
    refine R_s (P := True) (f' := (2, [some (vR 88), some (vI p), some (vI q)], [vI p, vR 88], LAY (u (shA A) 87 (wr (A 87) 3 ((rd (A 87) 3) + 1))) (shF F), 0, 0)) hc118 2 rfl trivial ?_
    refine R_cv hc118 rfl rfl ?_ (fun r G h => h)
    refine R_s (P := inI ((F 3) - 1) ∧ True) (f' := (8, [some (vR 88), some (vI p)], [vI ((F 3) - 1), vI 0, vI p], LAY (u (shA A) 87 (wr (A 87) 3 ((rd (A 87) 3) + 1))) (shF F), 0, 0)) hc106 6 rfl ⟨⟨by omega, by omega⟩, trivial⟩ ?_
    refine R_cs hc106 rfl rfl ?_ (fun r G h => h)
    refine R_s (P := True) (f' := (2, [some (vI p), some (vI 0), some (vI ((F 3) - 1))], [vI 0, vI p], LAY (u (shA A) 87 (wr (A 87) 3 ((rd (A 87) 3) + 1))) (shF F), 0, 0)) hc104 2 rfl trivial ?_
    refine R_ic (t := 14) hc104 rfl rfl (fun (_ : p < 0) => ?_) (fun (z : ¬ (p < 0)) => absurd (show p < 0 by omega) z)
    refine R_s (P := True) (f' := (15, [some (vI p), some (vI 0), some (vI ((F 3) - 1))], [vI 0], LAY (u (shA A) 87 (wr (A 87) 3 ((rd (A 87) 3) + 1))) (shF F), 0, 0)) hc104 1 rfl trivial ?_
    refine R_retz hc104 rfl rfl (Or.inl rfl) ?_
    refine R_s (f' := (11, [some (vR 88), some (vI p)], [vI 0], LAY (u (shA A) 87 (wr (A 87) 3 ((rd (A 87) 3) + 1))) (shF F), 0, 0)) hc106 0 rfl trivial ?_
    refine R_retz hc106 rfl rfl (Or.inl rfl) ?_
    refine R_s (f' := (5, [some (vR 88), some (vI p), some (vI q)], [vI 0], LAY (u (shA A) 87 (wr (A 87) 3 ((rd (A 87) 3) + 1))) (shF F), 0, 0)) hc118 0 rfl trivial ?_
    refine R_if (t := 15) hc118 rfl rfl (fun (z : ¬ 0 = 0) => absurd z (by decide)) (fun (_ : ¬ (¬ 0 = 0)) => ?_)
    refine R_s (P := True) (f' := (11, [some (vR 88), some (vI p), some (vI q)], [vI (-3), vR 88], LAY (u (shA A) 87 (wr (A 87) 3 ((rd (A 87) 3) + 1))) (shF F), 0, 0)) hc118 2 rfl trivial ?_
    refine R_cv hc118 rfl rfl ?_ (fun r G h => h)
    refine R_s (P := inI 3 ∧ (0 ≤ 3 ∧ 3 < ((A 87).length : Int)) ∧ inI ((rd (A 87) 3) + 1) ∧ (0 ≤ 3 ∧ 3 < ((A 87).length : Int)) ∧ True) (f' := (12, [some (vR 88), some (vI (-3))], [vI (-3)], LAY (u (u (shA A) 87 (wr (A 87) 3 ((rd (A 87) 3) + 1))) 89 (wr (A 87) 3 ((rd (A 87) 3) + 1))) (shF F), 0, 0)) hc105 10 rfl ⟨⟨by omega, by omega⟩, ⟨by omega, by omega⟩, ⟨by omega, by omega⟩, ⟨by omega, by omega⟩, trivial⟩ ?_
    refine R_reti hc105 rfl rfl ?_
    refine R_s (f' := (14, [some (vR 88), some (vI p), some (vI q)], [vI (-3)], LAY (u (u (shA A) 87 (wr (A 87) 3 ((rd (A 87) 3) + 1))) 89 (wr (A 87) 3 ((rd (A 87) 3) + 1))) (shF F), 0, 0)) hc118 0 rfl trivial ?_
    refine R_reti hc118 rfl rfl ?_
    first
      | (exfalso; omega; done)
      | exact ⟨rfl, (u A 87 (wr (A 87) 3 ((rd (A 87) 3) + 1))), F, rfl, rfl, REL_ref hR0 (by decide) (by decide)⟩
  · refine R_s (P := True) (f' := (9, [some (vR 2), some (vI p)], [vI (F 3), vI p], LAY (shA A) (shF F), 0, 0)) hc5 3 rfl trivial ?_
    refine R_ic (t := 16) hc5 rfl rfl (fun (c2 : F 3 ≤ p) => ?_) (fun (c2 : ¬ (F 3 ≤ p)) => ?_)
    · refine R_s (P := True) (f' := (17, [some (vR 2), some (vI p)], [vI 0], LAY (shA A) (shF F), 0, 0)) hc5 1 rfl trivial ?_
      refine R_retz hc5 rfl rfl (Or.inl rfl) ?_
      refine R_s (f' := (8, [some (vR 1), some (vI p), some (vI q)], [vI 0], LAY (shA A) (shF F), 0, 0)) hc64 0 rfl trivial ?_
      refine R_if (t := 18) hc64 rfl rfl (fun (z : ¬ 0 = 0) => absurd z (by decide)) (fun (_ : ¬ (¬ 0 = 0)) => ?_)
      refine R_s (P := True) (f' := (14, [some (vR 1), some (vI p), some (vI q)], [vI (-3), vR 1], LAY (shA A) (shF F), 0, 0)) hc64 2 rfl trivial ?_
      refine R_cv hc64 rfl rfl ?_ (fun r G h => h)
      refine R_s (P := True) (f' := (3, [some (vR 1), some (vI (-3))], [vI (-2), vI (-3)], LAY (shA A) (shF F), 0, 0)) hc93 2 rfl trivial ?_
      refine R_ic (t := 23) hc93 rfl rfl (fun (z : (-2) < (-3)) => absurd z (by decide)) (fun (_ : ¬ ((-2) < (-3))) => ?_)
      refine R_s (P := True) (f' := (9, [some (vR 1), some (vI (-3))], [vI (-8), vI (-3)], LAY (shA A) (shF F), 0, 0)) hc93 2 rfl trivial ?_
      refine R_ic (t := 23) hc93 rfl rfl (fun (z : (-3) < (-8)) => absurd z (by decide)) (fun (_ : ¬ ((-3) < (-8))) => ?_)
      refine R_s (P := inI 3 ∧ (0 ≤ 3 ∧ 3 < ((A 87).length : Int)) ∧ inI ((rd (A 87) 3) + 1) ∧ (0 ≤ 3 ∧ 3 < ((A 87).length : Int)) ∧ True) (f' := (24, [some (vR 1), some (vI (-3))], [vI (-3)], LAY (u (shA A) 87 (wr (A 87) 3 ((rd (A 87) 3) + 1))) (shF F), 0, 0)) hc93 10 rfl ⟨⟨by omega, by omega⟩, ⟨by omega, by omega⟩, ⟨by omega, by omega⟩, ⟨by omega, by omega⟩, trivial⟩ ?_
      refine R_reti hc93 rfl rfl ?_
      refine R_s (f' := (17, [some (vR 1), some (vI p), some (vI q)], [vI (-3)], LAY (u (shA A) 87 (wr (A 87) 3 ((rd (A 87) 3) + 1))) (shF F), 0, 0)) hc64 0 rfl trivial ?_
      refine R_reti hc64 rfl rfl ⟨⟨_, rfl⟩, ⟨_, _, rfl, rfl⟩, ?_⟩
      refine R_s (P := True) (f' := (2, [some (vR 88), some (vI p), some (vI q)], [vI p, vR 88], LAY (u (shA A) 87 (wr (A 87) 3 ((rd (A 87) 3) + 1))) (shF F), 0, 0)) hc118 2 rfl trivial ?_
      refine R_cv hc118 rfl rfl ?_ (fun r G h => h)
      refine R_s (P := inI ((F 3) - 1) ∧ True) (f' := (8, [some (vR 88), some (vI p)], [vI ((F 3) - 1), vI 0, vI p], LAY (u (shA A) 87 (wr (A 87) 3 ((rd (A 87) 3) + 1))) (shF F), 0, 0)) hc106 6 rfl ⟨⟨by omega, by omega⟩, trivial⟩ ?_
      refine R_cs hc106 rfl rfl ?_ (fun r G h => h)
      refine R_s (P := True) (f' := (2, [some (vI p), some (vI 0), some (vI ((F 3) - 1))], [vI 0, vI p], LAY (u (shA A) 87 (wr (A 87) 3 ((rd (A 87) 3) + 1))) (shF F), 0, 0)) hc104 2 rfl trivial ?_
      refine R_ic (t := 14) hc104 rfl rfl (fun (z : p < 0) => absurd z (by omega)) (fun (_ : ¬ (p < 0)) => ?_)
      refine R_s (P := True) (f' := (7, [some (vI p), some (vI 0), some (vI ((F 3) - 1))], [vI ((F 3) - 1), vI p], LAY (u (shA A) 87 (wr (A 87) 3 ((rd (A 87) 3) + 1))) (shF F), 0, 0)) hc104 2 rfl trivial ?_
      refine R_ic (t := 14) hc104 rfl rfl (fun (_ : (F 3) - 1 < p) => ?_) (fun (z : ¬ ((F 3) - 1 < p)) => absurd (show (F 3) - 1 < p by omega) z)
      refine R_s (P := True) (f' := (15, [some (vI p), some (vI 0), some (vI ((F 3) - 1))], [vI 0], LAY (u (shA A) 87 (wr (A 87) 3 ((rd (A 87) 3) + 1))) (shF F), 0, 0)) hc104 1 rfl trivial ?_
      refine R_retz hc104 rfl rfl (Or.inl rfl) ?_
      refine R_s (f' := (11, [some (vR 88), some (vI p)], [vI 0], LAY (u (shA A) 87 (wr (A 87) 3 ((rd (A 87) 3) + 1))) (shF F), 0, 0)) hc106 0 rfl trivial ?_
      refine R_retz hc106 rfl rfl (Or.inl rfl) ?_
      refine R_s (f' := (5, [some (vR 88), some (vI p), some (vI q)], [vI 0], LAY (u (shA A) 87 (wr (A 87) 3 ((rd (A 87) 3) + 1))) (shF F), 0, 0)) hc118 0 rfl trivial ?_
      refine R_if (t := 15) hc118 rfl rfl (fun (z : ¬ 0 = 0) => absurd z (by decide)) (fun (_ : ¬ (¬ 0 = 0)) => ?_)
      refine R_s (P := True) (f' := (11, [some (vR 88), some (vI p), some (vI q)], [vI (-3), vR 88], LAY (u (shA A) 87 (wr (A 87) 3 ((rd (A 87) 3) + 1))) (shF F), 0, 0)) hc118 2 rfl trivial ?_
      refine R_cv hc118 rfl rfl ?_ (fun r G h => h)
      refine R_s (P := inI 3 ∧ (0 ≤ 3 ∧ 3 < ((A 87).length : Int)) ∧ inI ((rd (A 87) 3) + 1) ∧ (0 ≤ 3 ∧ 3 < ((A 87).length : Int)) ∧ True) (f' := (12, [some (vR 88), some (vI (-3))], [vI (-3)], LAY (u (u (shA A) 87 (wr (A 87) 3 ((rd (A 87) 3) + 1))) 89 (wr (A 87) 3 ((rd (A 87) 3) + 1))) (shF F), 0, 0)) hc105 10 rfl ⟨⟨by omega, by omega⟩, ⟨by omega, by omega⟩, ⟨by omega, by omega⟩, ⟨by omega, by omega⟩, trivial⟩ ?_
      refine R_reti hc105 rfl rfl ?_
      refine R_s (f' := (14, [some (vR 88), some (vI p), some (vI q)], [vI (-3)], LAY (u (u (shA A) 87 (wr (A 87) 3 ((rd (A 87) 3) + 1))) 89 (wr (A 87) 3 ((rd (A 87) 3) + 1))) (shF F), 0, 0)) hc118 0 rfl trivial ?_
      refine R_reti hc118 rfl rfl ?_
      first
        | (exfalso; omega; done)
        | exact ⟨rfl, (u A 87 (wr (A 87) 3 ((rd (A 87) 3) + 1))), F, rfl, rfl, REL_ref hR0 (by decide) (by decide)⟩
    · refine R_s (P := True) (f' := (17, [some (vR 2), some (vI p)], [vI 1], LAY (shA A) (shF F), 0, 0)) hc5 2 rfl trivial ?_
      refine R_retz hc5 rfl rfl (Or.inr rfl) ?_
      refine R_s (f' := (8, [some (vR 1), some (vI p), some (vI q)], [vI 1], LAY (shA A) (shF F), 0, 0)) hc64 0 rfl trivial ?_
      refine R_if (t := 18) hc64 rfl rfl (fun (_ : ¬ 1 = 0) => ?_) (fun (z : ¬ (¬ 1 = 0)) => absurd (by decide) z)
      refine R_s (P := True) (f' := (27, [some (vR 1), some (vI p), some (vI q)], [vI (-1), vI (F 2), vR 2], LAY (shA A) (shF F), 0, 0)) hc64 5 rfl trivial ?_
      refine R_cv hc64 rfl rfl (l_wakeT (A := shA A) (F := shF F) (n := (F 3).toNat) (al := N_al A F) (LENS_sh hL) (R_n hR0) (R_n30 hR0) (R_TR (A := A) hR0) (R_U (A := A) hR0) (R_T (A := A) hR0) (fun p _ => rfl)) (fun r G9 hp9 => ?_)
      obtain ⟨rfl, l8, l9, l10, rfl, k8, k9, k10, hw⟩ := hp9
      have y8 : rd l8 p = N_al A F p.toNat ∧ rd l9 p = CN (A 3) (F 3).toNat (N_al A F) p.toNat := by
        have z := hw p.toNat (by omega)
        rw [show ((p.toNat : Nat) : Int) = p by omega] at z
        exact ⟨z.1, z.2.1⟩
      have y01 := N_al_01 (A := A) hR0 p.toNat (by omega)
      refine R_s (f' := (30, [some (vR 1), some (vI p), some (vI q)], [], LAY (u (u (u (shA A) 8 l8) 9 l9) 10 l10) (shF F), 0, 0)) hc64 0 rfl trivial ?_
      refine R_s (P := True) (f' := (31, [some (vR 1), some (vI p), some (vI q)], [vI q], LAY (u (u (u (shA A) 8 l8) 9 l9) 10 l10) (shF F), 0, 0)) hc64 1 rfl trivial ?_
      refine R_sw (t := 147) hc64 rfl (by decide) (fun isw o hio (c4 : q = 0 + isw) => ?_) rfl (fun (c4 : q < 0 ∨ 6 < q) => ?_)
      · match isw, hio, c4 with
        | 0, hio, c4 =>
          cases hio
          refine R_s (f' := (72, [some (vR 1), some (vI p), some (vI q)], [], LAY (u (u (u (shA A) 8 l8) 9 l9) 10 l10) (shF F), 0, 0)) hc64 0 rfl trivial ?_
          refine R_s (P := (0 ≤ p ∧ p < ((A 3).length : Int)) ∧ True) (f' := (81, [some (vR 1), some (vI p), some (vI q)], [vI (rd (A 3) p)], LAY (u (u (u (shA A) 8 l8) 9 l9) 10 l10) (shF F), 0, 0)) hc64 5 rfl ⟨⟨by omega, by omega⟩, trivial⟩ ?_
          refine R_reti hc64 rfl rfl ⟨⟨_, rfl⟩, ⟨_, _, rfl, rfl⟩, ?_⟩
          refine R_s (P := True) (f' := (2, [some (vR 88), some (vI p), some (vI q)], [vI p, vR 88], LAY (u (u (u (shA A) 8 l8) 9 l9) 10 l10) (shF F), 0, 0)) hc118 2 rfl trivial ?_
          refine R_cv hc118 rfl rfl ?_ (fun r G h => h)
          refine R_s (P := inI ((F 3) - 1) ∧ True) (f' := (8, [some (vR 88), some (vI p)], [vI ((F 3) - 1), vI 0, vI p], LAY (u (u (u (shA A) 8 l8) 9 l9) 10 l10) (shF F), 0, 0)) hc106 6 rfl ⟨⟨by omega, by omega⟩, trivial⟩ ?_
          refine R_cs hc106 rfl rfl ?_ (fun r G h => h)
          refine R_s (P := True) (f' := (2, [some (vI p), some (vI 0), some (vI ((F 3) - 1))], [vI 0, vI p], LAY (u (u (u (shA A) 8 l8) 9 l9) 10 l10) (shF F), 0, 0)) hc104 2 rfl trivial ?_
          refine R_ic (t := 14) hc104 rfl rfl (fun (z : p < 0) => absurd z (by omega)) (fun (_ : ¬ (p < 0)) => ?_)
          refine R_s (P := True) (f' := (7, [some (vI p), some (vI 0), some (vI ((F 3) - 1))], [vI ((F 3) - 1), vI p], LAY (u (u (u (shA A) 8 l8) 9 l9) 10 l10) (shF F), 0, 0)) hc104 2 rfl trivial ?_
          refine R_ic (t := 14) hc104 rfl rfl (fun (z : (F 3) - 1 < p) => absurd z (by omega)) (fun (_ : ¬ ((F 3) - 1 < p)) => ?_)
          refine R_s (P := True) (f' := (15, [some (vI p), some (vI 0), some (vI ((F 3) - 1))], [vI 1], LAY (u (u (u (shA A) 8 l8) 9 l9) 10 l10) (shF F), 0, 0)) hc104 2 rfl trivial ?_
          refine R_retz hc104 rfl rfl (Or.inr rfl) ?_
          refine R_s (f' := (11, [some (vR 88), some (vI p)], [vI 1], LAY (u (u (u (shA A) 8 l8) 9 l9) 10 l10) (shF F), 0, 0)) hc106 0 rfl trivial ?_
          refine R_retz hc106 rfl rfl (Or.inr rfl) ?_
          refine R_s (f' := (5, [some (vR 88), some (vI p), some (vI q)], [vI 1], LAY (u (u (u (shA A) 8 l8) 9 l9) 10 l10) (shF F), 0, 0)) hc118 0 rfl trivial ?_
          refine R_if (t := 15) hc118 rfl rfl (fun (_ : ¬ 1 = 0) => ?_) (fun (z : ¬ (¬ 1 = 0)) => absurd (by decide) z)
          refine R_s (P := True) (f' := (16, [some (vR 88), some (vI p), some (vI q)], [vI q], LAY (u (u (u (shA A) 8 l8) 9 l9) 10 l10) (shF F), 0, 0)) hc118 1 rfl trivial ?_
          refine R_sw (t := 122) hc118 rfl (by decide) (fun isw o hio (c108 : q = 0 + isw) => ?_) rfl (fun (c108 : q < 0 ∨ 6 < q) => ?_)
          · match isw, hio, c108 with
            | 0, hio, c108 =>
              cases hio
              refine R_s (f' := (60, [some (vR 88), some (vI p), some (vI q)], [], LAY (u (u (u (shA A) 8 l8) 9 l9) 10 l10) (shF F), 0, 0)) hc118 0 rfl trivial ?_
              refine R_s (P := (0 ≤ p ∧ p < ((A 3).length : Int)) ∧ True) (f' := (66, [some (vR 88), some (vI p), some (vI q)], [vI (rd (A 3) p)], LAY (u (u (u (shA A) 8 l8) 9 l9) 10 l10) (shF F), 0, 0)) hc118 4 rfl ⟨⟨by omega, by omega⟩, trivial⟩ ?_
              refine R_reti hc118 rfl rfl ?_
              first
                | (exfalso; omega; done)
                | exact ⟨rfl, (u (u (u A 8 l8) 9 l9) 10 l10), F, rfl, rfl, ⟨(LENS_u (LENS_u (LENS_u hL (by show (l8).length = (A 8).length; rw [k8, hL 8 (by decide)]; rfl)) (by show (l9).length = (A 9).length; rw [k9, hL 9 (by decide)]; rfl)) (by show (l10).length = (A 10).length; rw [k10, hL 10 (by decide)]; rfl)), hR0.2.1, hR0.2.2.1, hR0.2.2.2.1, hR0.2.2.2.2.1, hR0.2.2.2.2.2.1, hR0.2.2.2.2.2.2.1, hR0.2.2.2.2.2.2.2.1, hR0.2.2.2.2.2.2.2.2.1, (REFU_c hR0.2.2.2.2.2.2.2.2.2)⟩⟩
            | 1, hio, c108 =>
              cases hio
              refine R_s (f' := (67, [some (vR 88), some (vI p), some (vI q)], [], LAY (u (u (u (shA A) 8 l8) 9 l9) 10 l10) (shF F), 0, 0)) hc118 0 rfl trivial ?_
              refine R_s (P := (0 ≤ p ∧ p < ((A 4).length : Int)) ∧ True) (f' := (73, [some (vR 88), some (vI p), some (vI q)], [vI (rd (A 4) p)], LAY (u (u (u (shA A) 8 l8) 9 l9) 10 l10) (shF F), 0, 0)) hc118 4 rfl ⟨⟨by omega, by omega⟩, trivial⟩ ?_
              refine R_reti hc118 rfl rfl ?_
              first
                | (exfalso; omega; done)
                | exact ⟨(by rw [show rd (A 4) p = rd (A 3) p by omega]), (u (u (u A 8 l8) 9 l9) 10 l10), F, rfl, rfl, ⟨(LENS_u (LENS_u (LENS_u hL (by show (l8).length = (A 8).length; rw [k8, hL 8 (by decide)]; rfl)) (by show (l9).length = (A 9).length; rw [k9, hL 9 (by decide)]; rfl)) (by show (l10).length = (A 10).length; rw [k10, hL 10 (by decide)]; rfl)), hR0.2.1, hR0.2.2.1, hR0.2.2.2.1, hR0.2.2.2.2.1, hR0.2.2.2.2.2.1, hR0.2.2.2.2.2.2.1, hR0.2.2.2.2.2.2.2.1, hR0.2.2.2.2.2.2.2.2.1, (REFU_c hR0.2.2.2.2.2.2.2.2.2)⟩⟩
            | 2, hio, c108 =>
              cases hio
              refine R_s (f' := (74, [some (vR 88), some (vI p), some (vI q)], [], LAY (u (u (u (shA A) 8 l8) 9 l9) 10 l10) (shF F), 0, 0)) hc118 0 rfl trivial ?_
              refine R_s (P := (0 ≤ p ∧ p < ((A 5).length : Int)) ∧ True) (f' := (80, [some (vR 88), some (vI p), some (vI q)], [vI (rd (A 5) p)], LAY (u (u (u (shA A) 8 l8) 9 l9) 10 l10) (shF F), 0, 0)) hc118 4 rfl ⟨⟨by omega, by omega⟩, trivial⟩ ?_
              refine R_reti hc118 rfl rfl ?_
              first
                | (exfalso; omega; done)
                | exact ⟨(by rw [show rd (A 5) p = rd (A 3) p by omega]), (u (u (u A 8 l8) 9 l9) 10 l10), F, rfl, rfl, ⟨(LENS_u (LENS_u (LENS_u hL (by show (l8).length = (A 8).length; rw [k8, hL 8 (by decide)]; rfl)) (by show (l9).length = (A 9).length; rw [k9, hL 9 (by decide)]; rfl)) (by show (l10).length = (A 10).length; rw [k10, hL 10 (by decide)]; rfl)), hR0.2.1, hR0.2.2.1, hR0.2.2.2.1, hR0.2.2.2.2.1, hR0.2.2.2.2.2.1, hR0.2.2.2.2.2.2.1, hR0.2.2.2.2.2.2.2.1, hR0.2.2.2.2.2.2.2.2.1, (REFU_c hR0.2.2.2.2.2.2.2.2.2)⟩⟩
            | 3, hio, c108 =>
              cases hio
              refine R_s (f' := (81, [some (vR 88), some (vI p), some (vI q)], [], LAY (u (u (u (shA A) 8 l8) 9 l9) 10 l10) (shF F), 0, 0)) hc118 0 rfl trivial ?_
              refine R_s (P := (0 ≤ p ∧ p < ((A 6).length : Int)) ∧ True) (f' := (87, [some (vR 88), some (vI p), some (vI q)], [vI (rd (A 6) p)], LAY (u (u (u (shA A) 8 l8) 9 l9) 10 l10) (shF F), 0, 0)) hc118 4 rfl ⟨⟨by omega, by omega⟩, trivial⟩ ?_
              refine R_if (t := 94) hc118 rfl rfl (fun (c109 : rd (A 6) p = 0) => ?_) (fun (c109 : ¬ (rd (A 6) p = 0)) => ?_)
              · refine R_s (P := True) (f' := (95, [some (vR 88), some (vI p), some (vI q)], [vI 0], LAY (u (u (u (shA A) 8 l8) 9 l9) 10 l10) (shF F), 0, 0)) hc118 1 rfl trivial ?_
                refine R_reti hc118 rfl rfl ?_
                first
                  | (exfalso; omega; done)
                  | exact ⟨(by rw [show 0 = rd (A 3) p by omega]), (u (u (u A 8 l8) 9 l9) 10 l10), F, rfl, rfl, ⟨(LENS_u (LENS_u (LENS_u hL (by show (l8).length = (A 8).length; rw [k8, hL 8 (by decide)]; rfl)) (by show (l9).length = (A 9).length; rw [k9, hL 9 (by decide)]; rfl)) (by show (l10).length = (A 10).length; rw [k10, hL 10 (by decide)]; rfl)), hR0.2.1, hR0.2.2.1, hR0.2.2.2.1, hR0.2.2.2.2.1, hR0.2.2.2.2.2.1, hR0.2.2.2.2.2.2.1, hR0.2.2.2.2.2.2.2.1, hR0.2.2.2.2.2.2.2.2.1, (REFU_c hR0.2.2.2.2.2.2.2.2.2)⟩⟩
              · refine R_s (P := True) (f' := (95, [some (vR 88), some (vI p), some (vI q)], [vI 1], LAY (u (u (u (shA A) 8 l8) 9 l9) 10 l10) (shF F), 0, 0)) hc118 2 rfl trivial ?_
                refine R_reti hc118 rfl rfl ?_
                first
                  | (exfalso; omega; done)
                  | exact ⟨(by rw [show 1 = rd (A 3) p by omega]), (u (u (u A 8 l8) 9 l9) 10 l10), F, rfl, rfl, ⟨(LENS_u (LENS_u (LENS_u hL (by show (l8).length = (A 8).length; rw [k8, hL 8 (by decide)]; rfl)) (by show (l9).length = (A 9).length; rw [k9, hL 9 (by decide)]; rfl)) (by show (l10).length = (A 10).length; rw [k10, hL 10 (by decide)]; rfl)), hR0.2.1, hR0.2.2.1, hR0.2.2.2.1, hR0.2.2.2.2.1, hR0.2.2.2.2.2.1, hR0.2.2.2.2.2.2.1, hR0.2.2.2.2.2.2.2.1, hR0.2.2.2.2.2.2.2.2.1, (REFU_c hR0.2.2.2.2.2.2.2.2.2)⟩⟩
            | 4, hio, c108 =>
              cases hio
              refine R_s (f' := (96, [some (vR 88), some (vI p), some (vI q)], [], LAY (u (u (u (shA A) 8 l8) 9 l9) 10 l10) (shF F), 0, 0)) hc118 0 rfl trivial ?_
              refine R_s (P := True) (f' := (98, [some (vR 88), some (vI p), some (vI q)], [vI p, vR 88], LAY (u (u (u (shA A) 8 l8) 9 l9) 10 l10) (shF F), 0, 0)) hc118 2 rfl trivial ?_
              refine R_cv hc118 rfl rfl (l_lives (A := (u (u (u (shA A) 8 l8) 9 l9) 10 l10)) (F := (shF F)) (n := (F 3).toNat) (R_n hR0) (R_n30 hR0) (hL 4 (by decide)) (hL 5 (by decide)) (hL 6 (by decide)) (hL 94 (by decide)) (R_U (A := A) hR0) (fun p hp => (R_mT (A := A) hR0 p hp).1) (al := N_al A F) (N_al_m (A := A) hR0) (k := p.toNat) (by omega) (by omega)) (fun r G9 hp9 => ?_)
              obtain ⟨rfl, rfl⟩ := hp9
              refine R_s (f' := (101, [some (vR 88), some (vI p), some (vI q)], [vI (N_al A F p.toNat)], LAY (u (u (u (shA A) 8 l8) 9 l9) 10 l10) (shF F), 0, 0)) hc118 0 rfl trivial ?_
              refine R_if (t := 108) hc118 rfl rfl (fun (c110 : N_al A F p.toNat = 0) => ?_) (fun (c110 : ¬ (N_al A F p.toNat = 0)) => ?_)
              · refine R_s (P := True) (f' := (109, [some (vR 88), some (vI p), some (vI q)], [vI 0], LAY (u (u (u (shA A) 8 l8) 9 l9) 10 l10) (shF F), 0, 0)) hc118 1 rfl trivial ?_
                refine R_reti hc118 rfl rfl ?_
                first
                  | (exfalso; omega; done)
                  | exact ⟨(by rw [show 0 = rd (A 3) p by omega]), (u (u (u A 8 l8) 9 l9) 10 l10), F, rfl, rfl, ⟨(LENS_u (LENS_u (LENS_u hL (by show (l8).length = (A 8).length; rw [k8, hL 8 (by decide)]; rfl)) (by show (l9).length = (A 9).length; rw [k9, hL 9 (by decide)]; rfl)) (by show (l10).length = (A 10).length; rw [k10, hL 10 (by decide)]; rfl)), hR0.2.1, hR0.2.2.1, hR0.2.2.2.1, hR0.2.2.2.2.1, hR0.2.2.2.2.2.1, hR0.2.2.2.2.2.2.1, hR0.2.2.2.2.2.2.2.1, hR0.2.2.2.2.2.2.2.2.1, (REFU_c hR0.2.2.2.2.2.2.2.2.2)⟩⟩
              · refine R_s (P := True) (f' := (109, [some (vR 88), some (vI p), some (vI q)], [vI 1], LAY (u (u (u (shA A) 8 l8) 9 l9) 10 l10) (shF F), 0, 0)) hc118 2 rfl trivial ?_
                refine R_reti hc118 rfl rfl ?_
                first
                  | (exfalso; omega; done)
                  | exact ⟨(by rw [show 1 = rd (A 3) p by omega]), (u (u (u A 8 l8) 9 l9) 10 l10), F, rfl, rfl, ⟨(LENS_u (LENS_u (LENS_u hL (by show (l8).length = (A 8).length; rw [k8, hL 8 (by decide)]; rfl)) (by show (l9).length = (A 9).length; rw [k9, hL 9 (by decide)]; rfl)) (by show (l10).length = (A 10).length; rw [k10, hL 10 (by decide)]; rfl)), hR0.2.1, hR0.2.2.1, hR0.2.2.2.1, hR0.2.2.2.2.1, hR0.2.2.2.2.2.1, hR0.2.2.2.2.2.2.1, hR0.2.2.2.2.2.2.2.1, hR0.2.2.2.2.2.2.2.2.1, (REFU_c hR0.2.2.2.2.2.2.2.2.2)⟩⟩
            | 5, hio, c108 =>
              cases hio
              refine R_s (f' := (110, [some (vR 88), some (vI p), some (vI q)], [], LAY (u (u (u (shA A) 8 l8) 9 l9) 10 l10) (shF F), 0, 0)) hc118 0 rfl trivial ?_
              refine R_s (P := True) (f' := (112, [some (vR 88), some (vI p), some (vI q)], [vI p, vR 88], LAY (u (u (u (shA A) 8 l8) 9 l9) 10 l10) (shF F), 0, 0)) hc118 2 rfl trivial ?_
              refine R_cv hc118 rfl rfl (l_childrenM (A := (u (u (u (shA A) 8 l8) 9 l9) 10 l10)) (F := (shF F)) (n := (F 3).toNat) (R_n hR0) (R_n30 hR0) (hL 3 (by decide)) (q := p)) (fun r G9 hp9 => ?_)
              obtain ⟨rfl, rfl⟩ := hp9
              refine R_s (f' := (115, [some (vR 88), some (vI p), some (vI q)], [vI (sm (fun c => if rd (A 3) c = p then 1 else 0) (F 3).toNat)], LAY (u (u (u (shA A) 8 l8) 9 l9) 10 l10) (shF F), 0, 0)) hc118 0 rfl trivial ?_
              refine R_reti hc118 rfl rfl ?_
              first
                | (exfalso; omega; done)
                | exact ⟨(by rw [show sm (fun c => if rd (A 3) c = p then 1 else 0) (F 3).toNat = rd (A 3) p by omega]), (u (u (u A 8 l8) 9 l9) 10 l10), F, rfl, rfl, ⟨(LENS_u (LENS_u (LENS_u hL (by show (l8).length = (A 8).length; rw [k8, hL 8 (by decide)]; rfl)) (by show (l9).length = (A 9).length; rw [k9, hL 9 (by decide)]; rfl)) (by show (l10).length = (A 10).length; rw [k10, hL 10 (by decide)]; rfl)), hR0.2.1, hR0.2.2.1, hR0.2.2.2.1, hR0.2.2.2.2.1, hR0.2.2.2.2.2.1, hR0.2.2.2.2.2.2.1, hR0.2.2.2.2.2.2.2.1, hR0.2.2.2.2.2.2.2.2.1, (REFU_c hR0.2.2.2.2.2.2.2.2.2)⟩⟩
            | 6, hio, c108 =>
              cases hio
              refine R_s (f' := (116, [some (vR 88), some (vI p), some (vI q)], [], LAY (u (u (u (shA A) 8 l8) 9 l9) 10 l10) (shF F), 0, 0)) hc118 0 rfl trivial ?_
              refine R_s (P := True) (f' := (118, [some (vR 88), some (vI p), some (vI q)], [vI p, vR 88], LAY (u (u (u (shA A) 8 l8) 9 l9) 10 l10) (shF F), 0, 0)) hc118 2 rfl trivial ?_
              refine R_cv hc118 rfl rfl (l_ofLine (A := (u (u (u (shA A) 8 l8) 9 l9) 10 l10)) (F := (shF F)) (n := (F 3).toNat) (R_n hR0) (R_n30 hR0) (hL 4 (by decide)) (hL 5 (by decide)) (hL 6 (by decide)) (hL 94 (by decide)) (R_U (A := A) hR0) (fun p hp => (R_mT (A := A) hR0 p hp).1) (al := N_al A F) (N_al_m (A := A) hR0) (R_TR (A := A) hR0) (hL 3 (by decide)) (ro := p.toNat) (by omega) (by omega) (hL 104 (by decide)) (hL 105 (by decide))) (fun r G9 hp9 => ?_)
              obtain ⟨e1, l104, l105, rfl, k104, k105, w0⟩ := hp9
              have e2 : r = some (vI (rd l9 p)) := by
                rw [y8.2]
                exact e1
              clear e1
              subst e2
              refine R_s (f' := (121, [some (vR 88), some (vI p), some (vI q)], [vI (rd l9 p)], LAY (u (u (u (u (u (shA A) 8 l8) 9 l9) 10 l10) 104 l104) 105 l105) (shF F), 0, 0)) hc118 0 rfl trivial ?_
              refine R_reti hc118 rfl rfl ?_
              first
                | (exfalso; omega; done)
                | exact ⟨(by rw [show rd l9 p = rd (A 3) p by omega]), (u (u (u (u (u A 8 l8) 9 l9) 10 l10) 104 l104) 105 l105), F, rfl, rfl, ⟨(LENS_u (LENS_u (LENS_u (LENS_u (LENS_u hL (by show (l8).length = (A 8).length; rw [k8, hL 8 (by decide)]; rfl)) (by show (l9).length = (A 9).length; rw [k9, hL 9 (by decide)]; rfl)) (by show (l10).length = (A 10).length; rw [k10, hL 10 (by decide)]; rfl)) (by show (l104).length = (A 104).length; rw [k104, hL 104 (by decide)]; rfl)) (by show (l105).length = (A 105).length; rw [k105, hL 105 (by decide)]; rfl)), hR0.2.1, hR0.2.2.1, hR0.2.2.2.1, hR0.2.2.2.2.1, hR0.2.2.2.2.2.1, hR0.2.2.2.2.2.2.1, hR0.2.2.2.2.2.2.2.1, hR0.2.2.2.2.2.2.2.2.1, (REFU_c hR0.2.2.2.2.2.2.2.2.2)⟩⟩
            | isw + 7, hio, c108 => exact absurd hio (by simp)
          · refine R_s (P := True) (f' := (125, [some (vR 88), some (vI p), some (vI q)], [vI (-7), vR 88], LAY (u (u (u (shA A) 8 l8) 9 l9) 10 l10) (shF F), 0, 0)) hc118 2 rfl trivial ?_
            refine R_cv hc118 rfl rfl ?_ (fun r G h => h)
            refine R_s (P := inI 7 ∧ (0 ≤ 7 ∧ 7 < ((A 87).length : Int)) ∧ inI ((rd (A 87) 7) + 1) ∧ (0 ≤ 7 ∧ 7 < ((A 87).length : Int)) ∧ True) (f' := (12, [some (vR 88), some (vI (-7))], [vI (-7)], LAY (u (u (u (u (shA A) 8 l8) 9 l9) 10 l10) 89 (wr (A 87) 7 ((rd (A 87) 7) + 1))) (shF F), 0, 0)) hc105 10 rfl ⟨⟨by omega, by omega⟩, ⟨by omega, by omega⟩, ⟨by omega, by omega⟩, ⟨by omega, by omega⟩, trivial⟩ ?_
            refine R_reti hc105 rfl rfl ?_
            refine R_s (f' := (128, [some (vR 88), some (vI p), some (vI q)], [vI (-7)], LAY (u (u (u (u (shA A) 8 l8) 9 l9) 10 l10) 89 (wr (A 87) 7 ((rd (A 87) 7) + 1))) (shF F), 0, 0)) hc118 0 rfl trivial ?_
            refine R_reti hc118 rfl rfl ?_
            first
              | (exfalso; omega; done)
              | exact ⟨(by rw [show (-7) = rd (A 3) p by omega]), (u (u (u A 8 l8) 9 l9) 10 l10), F, rfl, rfl, ⟨(LENS_u (LENS_u (LENS_u hL (by show (l8).length = (A 8).length; rw [k8, hL 8 (by decide)]; rfl)) (by show (l9).length = (A 9).length; rw [k9, hL 9 (by decide)]; rfl)) (by show (l10).length = (A 10).length; rw [k10, hL 10 (by decide)]; rfl)), hR0.2.1, hR0.2.2.1, hR0.2.2.2.1, hR0.2.2.2.2.1, hR0.2.2.2.2.2.1, hR0.2.2.2.2.2.2.1, hR0.2.2.2.2.2.2.2.1, hR0.2.2.2.2.2.2.2.2.1, (REFU_c hR0.2.2.2.2.2.2.2.2.2)⟩⟩
        | 1, hio, c4 =>
          cases hio
          refine R_s (f' := (82, [some (vR 1), some (vI p), some (vI q)], [], LAY (u (u (u (shA A) 8 l8) 9 l9) 10 l10) (shF F), 0, 0)) hc64 0 rfl trivial ?_
          refine R_s (P := (0 ≤ p ∧ p < ((A 4).length : Int)) ∧ True) (f' := (91, [some (vR 1), some (vI p), some (vI q)], [vI (rd (A 4) p)], LAY (u (u (u (shA A) 8 l8) 9 l9) 10 l10) (shF F), 0, 0)) hc64 5 rfl ⟨⟨by omega, by omega⟩, trivial⟩ ?_
          refine R_reti hc64 rfl rfl ⟨⟨_, rfl⟩, ⟨_, _, rfl, rfl⟩, ?_⟩
          refine R_s (P := True) (f' := (2, [some (vR 88), some (vI p), some (vI q)], [vI p, vR 88], LAY (u (u (u (shA A) 8 l8) 9 l9) 10 l10) (shF F), 0, 0)) hc118 2 rfl trivial ?_
          refine R_cv hc118 rfl rfl ?_ (fun r G h => h)
          refine R_s (P := inI ((F 3) - 1) ∧ True) (f' := (8, [some (vR 88), some (vI p)], [vI ((F 3) - 1), vI 0, vI p], LAY (u (u (u (shA A) 8 l8) 9 l9) 10 l10) (shF F), 0, 0)) hc106 6 rfl ⟨⟨by omega, by omega⟩, trivial⟩ ?_
          refine R_cs hc106 rfl rfl ?_ (fun r G h => h)
          refine R_s (P := True) (f' := (2, [some (vI p), some (vI 0), some (vI ((F 3) - 1))], [vI 0, vI p], LAY (u (u (u (shA A) 8 l8) 9 l9) 10 l10) (shF F), 0, 0)) hc104 2 rfl trivial ?_
          refine R_ic (t := 14) hc104 rfl rfl (fun (z : p < 0) => absurd z (by omega)) (fun (_ : ¬ (p < 0)) => ?_)
          refine R_s (P := True) (f' := (7, [some (vI p), some (vI 0), some (vI ((F 3) - 1))], [vI ((F 3) - 1), vI p], LAY (u (u (u (shA A) 8 l8) 9 l9) 10 l10) (shF F), 0, 0)) hc104 2 rfl trivial ?_
          refine R_ic (t := 14) hc104 rfl rfl (fun (z : (F 3) - 1 < p) => absurd z (by omega)) (fun (_ : ¬ ((F 3) - 1 < p)) => ?_)
          refine R_s (P := True) (f' := (15, [some (vI p), some (vI 0), some (vI ((F 3) - 1))], [vI 1], LAY (u (u (u (shA A) 8 l8) 9 l9) 10 l10) (shF F), 0, 0)) hc104 2 rfl trivial ?_
          refine R_retz hc104 rfl rfl (Or.inr rfl) ?_
          refine R_s (f' := (11, [some (vR 88), some (vI p)], [vI 1], LAY (u (u (u (shA A) 8 l8) 9 l9) 10 l10) (shF F), 0, 0)) hc106 0 rfl trivial ?_
          refine R_retz hc106 rfl rfl (Or.inr rfl) ?_
          refine R_s (f' := (5, [some (vR 88), some (vI p), some (vI q)], [vI 1], LAY (u (u (u (shA A) 8 l8) 9 l9) 10 l10) (shF F), 0, 0)) hc118 0 rfl trivial ?_
          refine R_if (t := 15) hc118 rfl rfl (fun (_ : ¬ 1 = 0) => ?_) (fun (z : ¬ (¬ 1 = 0)) => absurd (by decide) z)
          refine R_s (P := True) (f' := (16, [some (vR 88), some (vI p), some (vI q)], [vI q], LAY (u (u (u (shA A) 8 l8) 9 l9) 10 l10) (shF F), 0, 0)) hc118 1 rfl trivial ?_
          refine R_sw (t := 122) hc118 rfl (by decide) (fun isw o hio (c108 : q = 0 + isw) => ?_) rfl (fun (c108 : q < 0 ∨ 6 < q) => ?_)
          · match isw, hio, c108 with
            | 0, hio, c108 =>
              cases hio
              refine R_s (f' := (60, [some (vR 88), some (vI p), some (vI q)], [], LAY (u (u (u (shA A) 8 l8) 9 l9) 10 l10) (shF F), 0, 0)) hc118 0 rfl trivial ?_
              refine R_s (P := (0 ≤ p ∧ p < ((A 3).length : Int)) ∧ True) (f' := (66, [some (vR 88), some (vI p), some (vI q)], [vI (rd (A 3) p)], LAY (u (u (u (shA A) 8 l8) 9 l9) 10 l10) (shF F), 0, 0)) hc118 4 rfl ⟨⟨by omega, by omega⟩, trivial⟩ ?_
              refine R_reti hc118 rfl rfl ?_
              first
                | (exfalso; omega; done)
                | exact ⟨(by rw [show rd (A 3) p = rd (A 4) p by omega]), (u (u (u A 8 l8) 9 l9) 10 l10), F, rfl, rfl, ⟨(LENS_u (LENS_u (LENS_u hL (by show (l8).length = (A 8).length; rw [k8, hL 8 (by decide)]; rfl)) (by show (l9).length = (A 9).length; rw [k9, hL 9 (by decide)]; rfl)) (by show (l10).length = (A 10).length; rw [k10, hL 10 (by decide)]; rfl)), hR0.2.1, hR0.2.2.1, hR0.2.2.2.1, hR0.2.2.2.2.1, hR0.2.2.2.2.2.1, hR0.2.2.2.2.2.2.1, hR0.2.2.2.2.2.2.2.1, hR0.2.2.2.2.2.2.2.2.1, (REFU_c hR0.2.2.2.2.2.2.2.2.2)⟩⟩
            | 1, hio, c108 =>
              cases hio
              refine R_s (f' := (67, [some (vR 88), some (vI p), some (vI q)], [], LAY (u (u (u (shA A) 8 l8) 9 l9) 10 l10) (shF F), 0, 0)) hc118 0 rfl trivial ?_
              refine R_s (P := (0 ≤ p ∧ p < ((A 4).length : Int)) ∧ True) (f' := (73, [some (vR 88), some (vI p), some (vI q)], [vI (rd (A 4) p)], LAY (u (u (u (shA A) 8 l8) 9 l9) 10 l10) (shF F), 0, 0)) hc118 4 rfl ⟨⟨by omega, by omega⟩, trivial⟩ ?_
              refine R_reti hc118 rfl rfl ?_
              first
                | (exfalso; omega; done)
                | exact ⟨rfl, (u (u (u A 8 l8) 9 l9) 10 l10), F, rfl, rfl, ⟨(LENS_u (LENS_u (LENS_u hL (by show (l8).length = (A 8).length; rw [k8, hL 8 (by decide)]; rfl)) (by show (l9).length = (A 9).length; rw [k9, hL 9 (by decide)]; rfl)) (by show (l10).length = (A 10).length; rw [k10, hL 10 (by decide)]; rfl)), hR0.2.1, hR0.2.2.1, hR0.2.2.2.1, hR0.2.2.2.2.1, hR0.2.2.2.2.2.1, hR0.2.2.2.2.2.2.1, hR0.2.2.2.2.2.2.2.1, hR0.2.2.2.2.2.2.2.2.1, (REFU_c hR0.2.2.2.2.2.2.2.2.2)⟩⟩
            | 2, hio, c108 =>
              cases hio
              refine R_s (f' := (74, [some (vR 88), some (vI p), some (vI q)], [], LAY (u (u (u (shA A) 8 l8) 9 l9) 10 l10) (shF F), 0, 0)) hc118 0 rfl trivial ?_
              refine R_s (P := (0 ≤ p ∧ p < ((A 5).length : Int)) ∧ True) (f' := (80, [some (vR 88), some (vI p), some (vI q)], [vI (rd (A 5) p)], LAY (u (u (u (shA A) 8 l8) 9 l9) 10 l10) (shF F), 0, 0)) hc118 4 rfl ⟨⟨by omega, by omega⟩, trivial⟩ ?_
              refine R_reti hc118 rfl rfl ?_
              first
                | (exfalso; omega; done)
                | exact ⟨(by rw [show rd (A 5) p = rd (A 4) p by omega]), (u (u (u A 8 l8) 9 l9) 10 l10), F, rfl, rfl, ⟨(LENS_u (LENS_u (LENS_u hL (by show (l8).length = (A 8).length; rw [k8, hL 8 (by decide)]; rfl)) (by show (l9).length = (A 9).length; rw [k9, hL 9 (by decide)]; rfl)) (by show (l10).length = (A 10).length; rw [k10, hL 10 (by decide)]; rfl)), hR0.2.1, hR0.2.2.1, hR0.2.2.2.1, hR0.2.2.2.2.1, hR0.2.2.2.2.2.1, hR0.2.2.2.2.2.2.1, hR0.2.2.2.2.2.2.2.1, hR0.2.2.2.2.2.2.2.2.1, (REFU_c hR0.2.2.2.2.2.2.2.2.2)⟩⟩
            | 3, hio, c108 =>
              cases hio
              refine R_s (f' := (81, [some (vR 88), some (vI p), some (vI q)], [], LAY (u (u (u (shA A) 8 l8) 9 l9) 10 l10) (shF F), 0, 0)) hc118 0 rfl trivial ?_
              refine R_s (P := (0 ≤ p ∧ p < ((A 6).length : Int)) ∧ True) (f' := (87, [some (vR 88), some (vI p), some (vI q)], [vI (rd (A 6) p)], LAY (u (u (u (shA A) 8 l8) 9 l9) 10 l10) (shF F), 0, 0)) hc118 4 rfl ⟨⟨by omega, by omega⟩, trivial⟩ ?_
              refine R_if (t := 94) hc118 rfl rfl (fun (c109 : rd (A 6) p = 0) => ?_) (fun (c109 : ¬ (rd (A 6) p = 0)) => ?_)
              · refine R_s (P := True) (f' := (95, [some (vR 88), some (vI p), some (vI q)], [vI 0], LAY (u (u (u (shA A) 8 l8) 9 l9) 10 l10) (shF F), 0, 0)) hc118 1 rfl trivial ?_
                refine R_reti hc118 rfl rfl ?_
                first
                  | (exfalso; omega; done)
                  | exact ⟨(by rw [show 0 = rd (A 4) p by omega]), (u (u (u A 8 l8) 9 l9) 10 l10), F, rfl, rfl, ⟨(LENS_u (LENS_u (LENS_u hL (by show (l8).length = (A 8).length; rw [k8, hL 8 (by decide)]; rfl)) (by show (l9).length = (A 9).length; rw [k9, hL 9 (by decide)]; rfl)) (by show (l10).length = (A 10).length; rw [k10, hL 10 (by decide)]; rfl)), hR0.2.1, hR0.2.2.1, hR0.2.2.2.1, hR0.2.2.2.2.1, hR0.2.2.2.2.2.1, hR0.2.2.2.2.2.2.1, hR0.2.2.2.2.2.2.2.1, hR0.2.2.2.2.2.2.2.2.1, (REFU_c hR0.2.2.2.2.2.2.2.2.2)⟩⟩
              · refine R_s (P := True) (f' := (95, [some (vR 88), some (vI p), some (vI q)], [vI 1], LAY (u (u (u (shA A) 8 l8) 9 l9) 10 l10) (shF F), 0, 0)) hc118 2 rfl trivial ?_
                refine R_reti hc118 rfl rfl ?_
                first
                  | (exfalso; omega; done)
                  | exact ⟨(by rw [show 1 = rd (A 4) p by omega]), (u (u (u A 8 l8) 9 l9) 10 l10), F, rfl, rfl, ⟨(LENS_u (LENS_u (LENS_u hL (by show (l8).length = (A 8).length; rw [k8, hL 8 (by decide)]; rfl)) (by show (l9).length = (A 9).length; rw [k9, hL 9 (by decide)]; rfl)) (by show (l10).length = (A 10).length; rw [k10, hL 10 (by decide)]; rfl)), hR0.2.1, hR0.2.2.1, hR0.2.2.2.1, hR0.2.2.2.2.1, hR0.2.2.2.2.2.1, hR0.2.2.2.2.2.2.1, hR0.2.2.2.2.2.2.2.1, hR0.2.2.2.2.2.2.2.2.1, (REFU_c hR0.2.2.2.2.2.2.2.2.2)⟩⟩
            | 4, hio, c108 =>
              cases hio
              refine R_s (f' := (96, [some (vR 88), some (vI p), some (vI q)], [], LAY (u (u (u (shA A) 8 l8) 9 l9) 10 l10) (shF F), 0, 0)) hc118 0 rfl trivial ?_
              refine R_s (P := True) (f' := (98, [some (vR 88), some (vI p), some (vI q)], [vI p, vR 88], LAY (u (u (u (shA A) 8 l8) 9 l9) 10 l10) (shF F), 0, 0)) hc118 2 rfl trivial ?_
              refine R_cv hc118 rfl rfl (l_lives (A := (u (u (u (shA A) 8 l8) 9 l9) 10 l10)) (F := (shF F)) (n := (F 3).toNat) (R_n hR0) (R_n30 hR0) (hL 4 (by decide)) (hL 5 (by decide)) (hL 6 (by decide)) (hL 94 (by decide)) (R_U (A := A) hR0) (fun p hp => (R_mT (A := A) hR0 p hp).1) (al := N_al A F) (N_al_m (A := A) hR0) (k := p.toNat) (by omega) (by omega)) (fun r G9 hp9 => ?_)
              obtain ⟨rfl, rfl⟩ := hp9
              refine R_s (f' := (101, [some (vR 88), some (vI p), some (vI q)], [vI (N_al A F p.toNat)], LAY (u (u (u (shA A) 8 l8) 9 l9) 10 l10) (shF F), 0, 0)) hc118 0 rfl trivial ?_
              refine R_if (t := 108) hc118 rfl rfl (fun (c110 : N_al A F p.toNat = 0) => ?_) (fun (c110 : ¬ (N_al A F p.toNat = 0)) => ?_)
              · refine R_s (P := True) (f' := (109, [some (vR 88), some (vI p), some (vI q)], [vI 0], LAY (u (u (u (shA A) 8 l8) 9 l9) 10 l10) (shF F), 0, 0)) hc118 1 rfl trivial ?_
                refine R_reti hc118 rfl rfl ?_
                first
                  | (exfalso; omega; done)
                  | exact ⟨(by rw [show 0 = rd (A 4) p by omega]), (u (u (u A 8 l8) 9 l9) 10 l10), F, rfl, rfl, ⟨(LENS_u (LENS_u (LENS_u hL (by show (l8).length = (A 8).length; rw [k8, hL 8 (by decide)]; rfl)) (by show (l9).length = (A 9).length; rw [k9, hL 9 (by decide)]; rfl)) (by show (l10).length = (A 10).length; rw [k10, hL 10 (by decide)]; rfl)), hR0.2.1, hR0.2.2.1, hR0.2.2.2.1, hR0.2.2.2.2.1, hR0.2.2.2.2.2.1, hR0.2.2.2.2.2.2.1, hR0.2.2.2.2.2.2.2.1, hR0.2.2.2.2.2.2.2.2.1, (REFU_c hR0.2.2.2.2.2.2.2.2.2)⟩⟩
              · refine R_s (P := True) (f' := (109, [some (vR 88), some (vI p), some (vI q)], [vI 1], LAY (u (u (u (shA A) 8 l8) 9 l9) 10 l10) (shF F), 0, 0)) hc118 2 rfl trivial ?_
                refine R_reti hc118 rfl rfl ?_
                first
                  | (exfalso; omega; done)
                  | exact ⟨(by rw [show 1 = rd (A 4) p by omega]), (u (u (u A 8 l8) 9 l9) 10 l10), F, rfl, rfl, ⟨(LENS_u (LENS_u (LENS_u hL (by show (l8).length = (A 8).length; rw [k8, hL 8 (by decide)]; rfl)) (by show (l9).length = (A 9).length; rw [k9, hL 9 (by decide)]; rfl)) (by show (l10).length = (A 10).length; rw [k10, hL 10 (by decide)]; rfl)), hR0.2.1, hR0.2.2.1, hR0.2.2.2.1, hR0.2.2.2.2.1, hR0.2.2.2.2.2.1, hR0.2.2.2.2.2.2.1, hR0.2.2.2.2.2.2.2.1, hR0.2.2.2.2.2.2.2.2.1, (REFU_c hR0.2.2.2.2.2.2.2.2.2)⟩⟩
            | 5, hio, c108 =>
              cases hio
              refine R_s (f' := (110, [some (vR 88), some (vI p), some (vI q)], [], LAY (u (u (u (shA A) 8 l8) 9 l9) 10 l10) (shF F), 0, 0)) hc118 0 rfl trivial ?_
              refine R_s (P := True) (f' := (112, [some (vR 88), some (vI p), some (vI q)], [vI p, vR 88], LAY (u (u (u (shA A) 8 l8) 9 l9) 10 l10) (shF F), 0, 0)) hc118 2 rfl trivial ?_
              refine R_cv hc118 rfl rfl (l_childrenM (A := (u (u (u (shA A) 8 l8) 9 l9) 10 l10)) (F := (shF F)) (n := (F 3).toNat) (R_n hR0) (R_n30 hR0) (hL 3 (by decide)) (q := p)) (fun r G9 hp9 => ?_)
              obtain ⟨rfl, rfl⟩ := hp9
              refine R_s (f' := (115, [some (vR 88), some (vI p), some (vI q)], [vI (sm (fun c => if rd (A 3) c = p then 1 else 0) (F 3).toNat)], LAY (u (u (u (shA A) 8 l8) 9 l9) 10 l10) (shF F), 0, 0)) hc118 0 rfl trivial ?_
              refine R_reti hc118 rfl rfl ?_
              first
                | (exfalso; omega; done)
                | exact ⟨(by rw [show sm (fun c => if rd (A 3) c = p then 1 else 0) (F 3).toNat = rd (A 4) p by omega]), (u (u (u A 8 l8) 9 l9) 10 l10), F, rfl, rfl, ⟨(LENS_u (LENS_u (LENS_u hL (by show (l8).length = (A 8).length; rw [k8, hL 8 (by decide)]; rfl)) (by show (l9).length = (A 9).length; rw [k9, hL 9 (by decide)]; rfl)) (by show (l10).length = (A 10).length; rw [k10, hL 10 (by decide)]; rfl)), hR0.2.1, hR0.2.2.1, hR0.2.2.2.1, hR0.2.2.2.2.1, hR0.2.2.2.2.2.1, hR0.2.2.2.2.2.2.1, hR0.2.2.2.2.2.2.2.1, hR0.2.2.2.2.2.2.2.2.1, (REFU_c hR0.2.2.2.2.2.2.2.2.2)⟩⟩
            | 6, hio, c108 =>
              cases hio
              refine R_s (f' := (116, [some (vR 88), some (vI p), some (vI q)], [], LAY (u (u (u (shA A) 8 l8) 9 l9) 10 l10) (shF F), 0, 0)) hc118 0 rfl trivial ?_
              refine R_s (P := True) (f' := (118, [some (vR 88), some (vI p), some (vI q)], [vI p, vR 88], LAY (u (u (u (shA A) 8 l8) 9 l9) 10 l10) (shF F), 0, 0)) hc118 2 rfl trivial ?_
              refine R_cv hc118 rfl rfl (l_ofLine (A := (u (u (u (shA A) 8 l8) 9 l9) 10 l10)) (F := (shF F)) (n := (F 3).toNat) (R_n hR0) (R_n30 hR0) (hL 4 (by decide)) (hL 5 (by decide)) (hL 6 (by decide)) (hL 94 (by decide)) (R_U (A := A) hR0) (fun p hp => (R_mT (A := A) hR0 p hp).1) (al := N_al A F) (N_al_m (A := A) hR0) (R_TR (A := A) hR0) (hL 3 (by decide)) (ro := p.toNat) (by omega) (by omega) (hL 104 (by decide)) (hL 105 (by decide))) (fun r G9 hp9 => ?_)
              obtain ⟨e1, l104, l105, rfl, k104, k105, w0⟩ := hp9
              have e2 : r = some (vI (rd l9 p)) := by
                rw [y8.2]
                exact e1
              clear e1
              subst e2
              refine R_s (f' := (121, [some (vR 88), some (vI p), some (vI q)], [vI (rd l9 p)], LAY (u (u (u (u (u (shA A) 8 l8) 9 l9) 10 l10) 104 l104) 105 l105) (shF F), 0, 0)) hc118 0 rfl trivial ?_
              refine R_reti hc118 rfl rfl ?_
              first
                | (exfalso; omega; done)
                | exact ⟨(by rw [show rd l9 p = rd (A 4) p by omega]), (u (u (u (u (u A 8 l8) 9 l9) 10 l10) 104 l104) 105 l105), F, rfl, rfl, ⟨(LENS_u (LENS_u (LENS_u (LENS_u (LENS_u hL (by show (l8).length = (A 8).length; rw [k8, hL 8 (by decide)]; rfl)) (by show (l9).length = (A 9).length; rw [k9, hL 9 (by decide)]; rfl)) (by show (l10).length = (A 10).length; rw [k10, hL 10 (by decide)]; rfl)) (by show (l104).length = (A 104).length; rw [k104, hL 104 (by decide)]; rfl)) (by show (l105).length = (A 105).length; rw [k105, hL 105 (by decide)]; rfl)), hR0.2.1, hR0.2.2.1, hR0.2.2.2.1, hR0.2.2.2.2.1, hR0.2.2.2.2.2.1, hR0.2.2.2.2.2.2.1, hR0.2.2.2.2.2.2.2.1, hR0.2.2.2.2.2.2.2.2.1, (REFU_c hR0.2.2.2.2.2.2.2.2.2)⟩⟩
            | isw + 7, hio, c108 => exact absurd hio (by simp)
          · refine R_s (P := True) (f' := (125, [some (vR 88), some (vI p), some (vI q)], [vI (-7), vR 88], LAY (u (u (u (shA A) 8 l8) 9 l9) 10 l10) (shF F), 0, 0)) hc118 2 rfl trivial ?_
            refine R_cv hc118 rfl rfl ?_ (fun r G h => h)
            refine R_s (P := inI 7 ∧ (0 ≤ 7 ∧ 7 < ((A 87).length : Int)) ∧ inI ((rd (A 87) 7) + 1) ∧ (0 ≤ 7 ∧ 7 < ((A 87).length : Int)) ∧ True) (f' := (12, [some (vR 88), some (vI (-7))], [vI (-7)], LAY (u (u (u (u (shA A) 8 l8) 9 l9) 10 l10) 89 (wr (A 87) 7 ((rd (A 87) 7) + 1))) (shF F), 0, 0)) hc105 10 rfl ⟨⟨by omega, by omega⟩, ⟨by omega, by omega⟩, ⟨by omega, by omega⟩, ⟨by omega, by omega⟩, trivial⟩ ?_
            refine R_reti hc105 rfl rfl ?_
            refine R_s (f' := (128, [some (vR 88), some (vI p), some (vI q)], [vI (-7)], LAY (u (u (u (u (shA A) 8 l8) 9 l9) 10 l10) 89 (wr (A 87) 7 ((rd (A 87) 7) + 1))) (shF F), 0, 0)) hc118 0 rfl trivial ?_
            refine R_reti hc118 rfl rfl ?_
            first
              | (exfalso; omega; done)
              | exact ⟨(by rw [show (-7) = rd (A 4) p by omega]), (u (u (u A 8 l8) 9 l9) 10 l10), F, rfl, rfl, ⟨(LENS_u (LENS_u (LENS_u hL (by show (l8).length = (A 8).length; rw [k8, hL 8 (by decide)]; rfl)) (by show (l9).length = (A 9).length; rw [k9, hL 9 (by decide)]; rfl)) (by show (l10).length = (A 10).length; rw [k10, hL 10 (by decide)]; rfl)), hR0.2.1, hR0.2.2.1, hR0.2.2.2.1, hR0.2.2.2.2.1, hR0.2.2.2.2.2.1, hR0.2.2.2.2.2.2.1, hR0.2.2.2.2.2.2.2.1, hR0.2.2.2.2.2.2.2.2.1, (REFU_c hR0.2.2.2.2.2.2.2.2.2)⟩⟩
        | 2, hio, c4 =>
          cases hio
          refine R_s (f' := (92, [some (vR 1), some (vI p), some (vI q)], [], LAY (u (u (u (shA A) 8 l8) 9 l9) 10 l10) (shF F), 0, 0)) hc64 0 rfl trivial ?_
          refine R_s (P := (0 ≤ p ∧ p < ((A 5).length : Int)) ∧ True) (f' := (101, [some (vR 1), some (vI p), some (vI q)], [vI (rd (A 5) p)], LAY (u (u (u (shA A) 8 l8) 9 l9) 10 l10) (shF F), 0, 0)) hc64 5 rfl ⟨⟨by omega, by omega⟩, trivial⟩ ?_
          refine R_reti hc64 rfl rfl ⟨⟨_, rfl⟩, ⟨_, _, rfl, rfl⟩, ?_⟩
          refine R_s (P := True) (f' := (2, [some (vR 88), some (vI p), some (vI q)], [vI p, vR 88], LAY (u (u (u (shA A) 8 l8) 9 l9) 10 l10) (shF F), 0, 0)) hc118 2 rfl trivial ?_
          refine R_cv hc118 rfl rfl ?_ (fun r G h => h)
          refine R_s (P := inI ((F 3) - 1) ∧ True) (f' := (8, [some (vR 88), some (vI p)], [vI ((F 3) - 1), vI 0, vI p], LAY (u (u (u (shA A) 8 l8) 9 l9) 10 l10) (shF F), 0, 0)) hc106 6 rfl ⟨⟨by omega, by omega⟩, trivial⟩ ?_
          refine R_cs hc106 rfl rfl ?_ (fun r G h => h)
          refine R_s (P := True) (f' := (2, [some (vI p), some (vI 0), some (vI ((F 3) - 1))], [vI 0, vI p], LAY (u (u (u (shA A) 8 l8) 9 l9) 10 l10) (shF F), 0, 0)) hc104 2 rfl trivial ?_
          refine R_ic (t := 14) hc104 rfl rfl (fun (z : p < 0) => absurd z (by omega)) (fun (_ : ¬ (p < 0)) => ?_)
          refine R_s (P := True) (f' := (7, [some (vI p), some (vI 0), some (vI ((F 3) - 1))], [vI ((F 3) - 1), vI p], LAY (u (u (u (shA A) 8 l8) 9 l9) 10 l10) (shF F), 0, 0)) hc104 2 rfl trivial ?_
          refine R_ic (t := 14) hc104 rfl rfl (fun (z : (F 3) - 1 < p) => absurd z (by omega)) (fun (_ : ¬ ((F 3) - 1 < p)) => ?_)
          refine R_s (P := True) (f' := (15, [some (vI p), some (vI 0), some (vI ((F 3) - 1))], [vI 1], LAY (u (u (u (shA A) 8 l8) 9 l9) 10 l10) (shF F), 0, 0)) hc104 2 rfl trivial ?_
          refine R_retz hc104 rfl rfl (Or.inr rfl) ?_
          refine R_s (f' := (11, [some (vR 88), some (vI p)], [vI 1], LAY (u (u (u (shA A) 8 l8) 9 l9) 10 l10) (shF F), 0, 0)) hc106 0 rfl trivial ?_
          refine R_retz hc106 rfl rfl (Or.inr rfl) ?_
          refine R_s (f' := (5, [some (vR 88), some (vI p), some (vI q)], [vI 1], LAY (u (u (u (shA A) 8 l8) 9 l9) 10 l10) (shF F), 0, 0)) hc118 0 rfl trivial ?_
          refine R_if (t := 15) hc118 rfl rfl (fun (_ : ¬ 1 = 0) => ?_) (fun (z : ¬ (¬ 1 = 0)) => absurd (by decide) z)
          refine R_s (P := True) (f' := (16, [some (vR 88), some (vI p), some (vI q)], [vI q], LAY (u (u (u (shA A) 8 l8) 9 l9) 10 l10) (shF F), 0, 0)) hc118 1 rfl trivial ?_
          refine R_sw (t := 122) hc118 rfl (by decide) (fun isw o hio (c108 : q = 0 + isw) => ?_) rfl (fun (c108 : q < 0 ∨ 6 < q) => ?_)
          · match isw, hio, c108 with
            | 0, hio, c108 =>
              cases hio
              refine R_s (f' := (60, [some (vR 88), some (vI p), some (vI q)], [], LAY (u (u (u (shA A) 8 l8) 9 l9) 10 l10) (shF F), 0, 0)) hc118 0 rfl trivial ?_
              refine R_s (P := (0 ≤ p ∧ p < ((A 3).length : Int)) ∧ True) (f' := (66, [some (vR 88), some (vI p), some (vI q)], [vI (rd (A 3) p)], LAY (u (u (u (shA A) 8 l8) 9 l9) 10 l10) (shF F), 0, 0)) hc118 4 rfl ⟨⟨by omega, by omega⟩, trivial⟩ ?_
              refine R_reti hc118 rfl rfl ?_
              first
                | (exfalso; omega; done)
                | exact ⟨(by rw [show rd (A 3) p = rd (A 5) p by omega]), (u (u (u A 8 l8) 9 l9) 10 l10), F, rfl, rfl, ⟨(LENS_u (LENS_u (LENS_u hL (by show (l8).length = (A 8).length; rw [k8, hL 8 (by decide)]; rfl)) (by show (l9).length = (A 9).length; rw [k9, hL 9 (by decide)]; rfl)) (by show (l10).length = (A 10).length; rw [k10, hL 10 (by decide)]; rfl)), hR0.2.1, hR0.2.2.1, hR0.2.2.2.1, hR0.2.2.2.2.1, hR0.2.2.2.2.2.1, hR0.2.2.2.2.2.2.1, hR0.2.2.2.2.2.2.2.1, hR0.2.2.2.2.2.2.2.2.1, (REFU_c hR0.2.2.2.2.2.2.2.2.2)⟩⟩
            | 1, hio, c108 =>
              cases hio
              refine R_s (f' := (67, [some (vR 88), some (vI p), some (vI q)], [], LAY (u (u (u (shA A) 8 l8) 9 l9) 10 l10) (shF F), 0, 0)) hc118 0 rfl trivial ?_
              refine R_s (P := (0 ≤ p ∧ p < ((A 4).length : Int)) ∧ True) (f' := (73, [some (vR 88), some (vI p), some (vI q)], [vI (rd (A 4) p)], LAY (u (u (u (shA A) 8 l8) 9 l9) 10 l10) (shF F), 0, 0)) hc118 4 rfl ⟨⟨by omega, by omega⟩, trivial⟩ ?_
              refine R_reti hc118 rfl rfl ?_
              first
                | (exfalso; omega; done)
                | exact ⟨(by rw [show rd (A 4) p = rd (A 5) p by omega]), (u (u (u A 8 l8) 9 l9) 10 l10), F, rfl, rfl, ⟨(LENS_u (LENS_u (LENS_u hL (by show (l8).length = (A 8).length; rw [k8, hL 8 (by decide)]; rfl)) (by show (l9).length = (A 9).length; rw [k9, hL 9 (by decide)]; rfl)) (by show (l10).length = (A 10).length; rw [k10, hL 10 (by decide)]; rfl)), hR0.2.1, hR0.2.2.1, hR0.2.2.2.1, hR0.2.2.2.2.1, hR0.2.2.2.2.2.1, hR0.2.2.2.2.2.2.1, hR0.2.2.2.2.2.2.2.1, hR0.2.2.2.2.2.2.2.2.1, (REFU_c hR0.2.2.2.2.2.2.2.2.2)⟩⟩
            | 2, hio, c108 =>
              cases hio
              refine R_s (f' := (74, [some (vR 88), some (vI p), some (vI q)], [], LAY (u (u (u (shA A) 8 l8) 9 l9) 10 l10) (shF F), 0, 0)) hc118 0 rfl trivial ?_
              refine R_s (P := (0 ≤ p ∧ p < ((A 5).length : Int)) ∧ True) (f' := (80, [some (vR 88), some (vI p), some (vI q)], [vI (rd (A 5) p)], LAY (u (u (u (shA A) 8 l8) 9 l9) 10 l10) (shF F), 0, 0)) hc118 4 rfl ⟨⟨by omega, by omega⟩, trivial⟩ ?_
              refine R_reti hc118 rfl rfl ?_
              first
                | (exfalso; omega; done)
                | exact ⟨rfl, (u (u (u A 8 l8) 9 l9) 10 l10), F, rfl, rfl, ⟨(LENS_u (LENS_u (LENS_u hL (by show (l8).length = (A 8).length; rw [k8, hL 8 (by decide)]; rfl)) (by show (l9).length = (A 9).length; rw [k9, hL 9 (by decide)]; rfl)) (by show (l10).length = (A 10).length; rw [k10, hL 10 (by decide)]; rfl)), hR0.2.1, hR0.2.2.1, hR0.2.2.2.1, hR0.2.2.2.2.1, hR0.2.2.2.2.2.1, hR0.2.2.2.2.2.2.1, hR0.2.2.2.2.2.2.2.1, hR0.2.2.2.2.2.2.2.2.1, (REFU_c hR0.2.2.2.2.2.2.2.2.2)⟩⟩
            | 3, hio, c108 =>
              cases hio
              refine R_s (f' := (81, [some (vR 88), some (vI p), some (vI q)], [], LAY (u (u (u (shA A) 8 l8) 9 l9) 10 l10) (shF F), 0, 0)) hc118 0 rfl trivial ?_
              refine R_s (P := (0 ≤ p ∧ p < ((A 6).length : Int)) ∧ True) (f' := (87, [some (vR 88), some (vI p), some (vI q)], [vI (rd (A 6) p)], LAY (u (u (u (shA A) 8 l8) 9 l9) 10 l10) (shF F), 0, 0)) hc118 4 rfl ⟨⟨by omega, by omega⟩, trivial⟩ ?_
              refine R_if (t := 94) hc118 rfl rfl (fun (c109 : rd (A 6) p = 0) => ?_) (fun (c109 : ¬ (rd (A 6) p = 0)) => ?_)
              · refine R_s (P := True) (f' := (95, [some (vR 88), some (vI p), some (vI q)], [vI 0], LAY (u (u (u (shA A) 8 l8) 9 l9) 10 l10) (shF F), 0, 0)) hc118 1 rfl trivial ?_
                refine R_reti hc118 rfl rfl ?_
                first
                  | (exfalso; omega; done)
                  | exact ⟨(by rw [show 0 = rd (A 5) p by omega]), (u (u (u A 8 l8) 9 l9) 10 l10), F, rfl, rfl, ⟨(LENS_u (LENS_u (LENS_u hL (by show (l8).length = (A 8).length; rw [k8, hL 8 (by decide)]; rfl)) (by show (l9).length = (A 9).length; rw [k9, hL 9 (by decide)]; rfl)) (by show (l10).length = (A 10).length; rw [k10, hL 10 (by decide)]; rfl)), hR0.2.1, hR0.2.2.1, hR0.2.2.2.1, hR0.2.2.2.2.1, hR0.2.2.2.2.2.1, hR0.2.2.2.2.2.2.1, hR0.2.2.2.2.2.2.2.1, hR0.2.2.2.2.2.2.2.2.1, (REFU_c hR0.2.2.2.2.2.2.2.2.2)⟩⟩
              · refine R_s (P := True) (f' := (95, [some (vR 88), some (vI p), some (vI q)], [vI 1], LAY (u (u (u (shA A) 8 l8) 9 l9) 10 l10) (shF F), 0, 0)) hc118 2 rfl trivial ?_
                refine R_reti hc118 rfl rfl ?_
                first
                  | (exfalso; omega; done)
                  | exact ⟨(by rw [show 1 = rd (A 5) p by omega]), (u (u (u A 8 l8) 9 l9) 10 l10), F, rfl, rfl, ⟨(LENS_u (LENS_u (LENS_u hL (by show (l8).length = (A 8).length; rw [k8, hL 8 (by decide)]; rfl)) (by show (l9).length = (A 9).length; rw [k9, hL 9 (by decide)]; rfl)) (by show (l10).length = (A 10).length; rw [k10, hL 10 (by decide)]; rfl)), hR0.2.1, hR0.2.2.1, hR0.2.2.2.1, hR0.2.2.2.2.1, hR0.2.2.2.2.2.1, hR0.2.2.2.2.2.2.1, hR0.2.2.2.2.2.2.2.1, hR0.2.2.2.2.2.2.2.2.1, (REFU_c hR0.2.2.2.2.2.2.2.2.2)⟩⟩
            | 4, hio, c108 =>
              cases hio
              refine R_s (f' := (96, [some (vR 88), some (vI p), some (vI q)], [], LAY (u (u (u (shA A) 8 l8) 9 l9) 10 l10) (shF F), 0, 0)) hc118 0 rfl trivial ?_
              refine R_s (P := True) (f' := (98, [some (vR 88), some (vI p), some (vI q)], [vI p, vR 88], LAY (u (u (u (shA A) 8 l8) 9 l9) 10 l10) (shF F), 0, 0)) hc118 2 rfl trivial ?_
              refine R_cv hc118 rfl rfl (l_lives (A := (u (u (u (shA A) 8 l8) 9 l9) 10 l10)) (F := (shF F)) (n := (F 3).toNat) (R_n hR0) (R_n30 hR0) (hL 4 (by decide)) (hL 5 (by decide)) (hL 6 (by decide)) (hL 94 (by decide)) (R_U (A := A) hR0) (fun p hp => (R_mT (A := A) hR0 p hp).1) (al := N_al A F) (N_al_m (A := A) hR0) (k := p.toNat) (by omega) (by omega)) (fun r G9 hp9 => ?_)
              obtain ⟨rfl, rfl⟩ := hp9
              refine R_s (f' := (101, [some (vR 88), some (vI p), some (vI q)], [vI (N_al A F p.toNat)], LAY (u (u (u (shA A) 8 l8) 9 l9) 10 l10) (shF F), 0, 0)) hc118 0 rfl trivial ?_
              refine R_if (t := 108) hc118 rfl rfl (fun (c110 : N_al A F p.toNat = 0) => ?_) (fun (c110 : ¬ (N_al A F p.toNat = 0)) => ?_)
              · refine R_s (P := True) (f' := (109, [some (vR 88), some (vI p), some (vI q)], [vI 0], LAY (u (u (u (shA A) 8 l8) 9 l9) 10 l10) (shF F), 0, 0)) hc118 1 rfl trivial ?_
                refine R_reti hc118 rfl rfl ?_
                first
                  | (exfalso; omega; done)
                  | exact ⟨(by rw [show 0 = rd (A 5) p by omega]), (u (u (u A 8 l8) 9 l9) 10 l10), F, rfl, rfl, ⟨(LENS_u (LENS_u (LENS_u hL (by show (l8).length = (A 8).length; rw [k8, hL 8 (by decide)]; rfl)) (by show (l9).length = (A 9).length; rw [k9, hL 9 (by decide)]; rfl)) (by show (l10).length = (A 10).length; rw [k10, hL 10 (by decide)]; rfl)), hR0.2.1, hR0.2.2.1, hR0.2.2.2.1, hR0.2.2.2.2.1, hR0.2.2.2.2.2.1, hR0.2.2.2.2.2.2.1, hR0.2.2.2.2.2.2.2.1, hR0.2.2.2.2.2.2.2.2.1, (REFU_c hR0.2.2.2.2.2.2.2.2.2)⟩⟩
              · refine R_s (P := True) (f' := (109, [some (vR 88), some (vI p), some (vI q)], [vI 1], LAY (u (u (u (shA A) 8 l8) 9 l9) 10 l10) (shF F), 0, 0)) hc118 2 rfl trivial ?_
                refine R_reti hc118 rfl rfl ?_
                first
                  | (exfalso; omega; done)
                  | exact ⟨(by rw [show 1 = rd (A 5) p by omega]), (u (u (u A 8 l8) 9 l9) 10 l10), F, rfl, rfl, ⟨(LENS_u (LENS_u (LENS_u hL (by show (l8).length = (A 8).length; rw [k8, hL 8 (by decide)]; rfl)) (by show (l9).length = (A 9).length; rw [k9, hL 9 (by decide)]; rfl)) (by show (l10).length = (A 10).length; rw [k10, hL 10 (by decide)]; rfl)), hR0.2.1, hR0.2.2.1, hR0.2.2.2.1, hR0.2.2.2.2.1, hR0.2.2.2.2.2.1, hR0.2.2.2.2.2.2.1, hR0.2.2.2.2.2.2.2.1, hR0.2.2.2.2.2.2.2.2.1, (REFU_c hR0.2.2.2.2.2.2.2.2.2)⟩⟩
            | 5, hio, c108 =>
              cases hio
              refine R_s (f' := (110, [some (vR 88), some (vI p), some (vI q)], [], LAY (u (u (u (shA A) 8 l8) 9 l9) 10 l10) (shF F), 0, 0)) hc118 0 rfl trivial ?_
              refine R_s (P := True) (f' := (112, [some (vR 88), some (vI p), some (vI q)], [vI p, vR 88], LAY (u (u (u (shA A) 8 l8) 9 l9) 10 l10) (shF F), 0, 0)) hc118 2 rfl trivial ?_
              refine R_cv hc118 rfl rfl (l_childrenM (A := (u (u (u (shA A) 8 l8) 9 l9) 10 l10)) (F := (shF F)) (n := (F 3).toNat) (R_n hR0) (R_n30 hR0) (hL 3 (by decide)) (q := p)) (fun r G9 hp9 => ?_)
              obtain ⟨rfl, rfl⟩ := hp9
              refine R_s (f' := (115, [some (vR 88), some (vI p), some (vI q)], [vI (sm (fun c => if rd (A 3) c = p then 1 else 0) (F 3).toNat)], LAY (u (u (u (shA A) 8 l8) 9 l9) 10 l10) (shF F), 0, 0)) hc118 0 rfl trivial ?_
              refine R_reti hc118 rfl rfl ?_
              first
                | (exfalso; omega; done)
                | exact ⟨(by rw [show sm (fun c => if rd (A 3) c = p then 1 else 0) (F 3).toNat = rd (A 5) p by omega]), (u (u (u A 8 l8) 9 l9) 10 l10), F, rfl, rfl, ⟨(LENS_u (LENS_u (LENS_u hL (by show (l8).length = (A 8).length; rw [k8, hL 8 (by decide)]; rfl)) (by show (l9).length = (A 9).length; rw [k9, hL 9 (by decide)]; rfl)) (by show (l10).length = (A 10).length; rw [k10, hL 10 (by decide)]; rfl)), hR0.2.1, hR0.2.2.1, hR0.2.2.2.1, hR0.2.2.2.2.1, hR0.2.2.2.2.2.1, hR0.2.2.2.2.2.2.1, hR0.2.2.2.2.2.2.2.1, hR0.2.2.2.2.2.2.2.2.1, (REFU_c hR0.2.2.2.2.2.2.2.2.2)⟩⟩
            | 6, hio, c108 =>
              cases hio
              refine R_s (f' := (116, [some (vR 88), some (vI p), some (vI q)], [], LAY (u (u (u (shA A) 8 l8) 9 l9) 10 l10) (shF F), 0, 0)) hc118 0 rfl trivial ?_
              refine R_s (P := True) (f' := (118, [some (vR 88), some (vI p), some (vI q)], [vI p, vR 88], LAY (u (u (u (shA A) 8 l8) 9 l9) 10 l10) (shF F), 0, 0)) hc118 2 rfl trivial ?_
              refine R_cv hc118 rfl rfl (l_ofLine (A := (u (u (u (shA A) 8 l8) 9 l9) 10 l10)) (F := (shF F)) (n := (F 3).toNat) (R_n hR0) (R_n30 hR0) (hL 4 (by decide)) (hL 5 (by decide)) (hL 6 (by decide)) (hL 94 (by decide)) (R_U (A := A) hR0) (fun p hp => (R_mT (A := A) hR0 p hp).1) (al := N_al A F) (N_al_m (A := A) hR0) (R_TR (A := A) hR0) (hL 3 (by decide)) (ro := p.toNat) (by omega) (by omega) (hL 104 (by decide)) (hL 105 (by decide))) (fun r G9 hp9 => ?_)
              obtain ⟨e1, l104, l105, rfl, k104, k105, w0⟩ := hp9
              have e2 : r = some (vI (rd l9 p)) := by
                rw [y8.2]
                exact e1
              clear e1
              subst e2
              refine R_s (f' := (121, [some (vR 88), some (vI p), some (vI q)], [vI (rd l9 p)], LAY (u (u (u (u (u (shA A) 8 l8) 9 l9) 10 l10) 104 l104) 105 l105) (shF F), 0, 0)) hc118 0 rfl trivial ?_
              refine R_reti hc118 rfl rfl ?_
              first
                | (exfalso; omega; done)
                | exact ⟨(by rw [show rd l9 p = rd (A 5) p by omega]), (u (u (u (u (u A 8 l8) 9 l9) 10 l10) 104 l104) 105 l105), F, rfl, rfl, ⟨(LENS_u (LENS_u (LENS_u (LENS_u (LENS_u hL (by show (l8).length = (A 8).length; rw [k8, hL 8 (by decide)]; rfl)) (by show (l9).length = (A 9).length; rw [k9, hL 9 (by decide)]; rfl)) (by show (l10).length = (A 10).length; rw [k10, hL 10 (by decide)]; rfl)) (by show (l104).length = (A 104).length; rw [k104, hL 104 (by decide)]; rfl)) (by show (l105).length = (A 105).length; rw [k105, hL 105 (by decide)]; rfl)), hR0.2.1, hR0.2.2.1, hR0.2.2.2.1, hR0.2.2.2.2.1, hR0.2.2.2.2.2.1, hR0.2.2.2.2.2.2.1, hR0.2.2.2.2.2.2.2.1, hR0.2.2.2.2.2.2.2.2.1, (REFU_c hR0.2.2.2.2.2.2.2.2.2)⟩⟩
            | isw + 7, hio, c108 => exact absurd hio (by simp)
          · refine R_s (P := True) (f' := (125, [some (vR 88), some (vI p), some (vI q)], [vI (-7), vR 88], LAY (u (u (u (shA A) 8 l8) 9 l9) 10 l10) (shF F), 0, 0)) hc118 2 rfl trivial ?_
            refine R_cv hc118 rfl rfl ?_ (fun r G h => h)
            refine R_s (P := inI 7 ∧ (0 ≤ 7 ∧ 7 < ((A 87).length : Int)) ∧ inI ((rd (A 87) 7) + 1) ∧ (0 ≤ 7 ∧ 7 < ((A 87).length : Int)) ∧ True) (f' := (12, [some (vR 88), some (vI (-7))], [vI (-7)], LAY (u (u (u (u (shA A) 8 l8) 9 l9) 10 l10) 89 (wr (A 87) 7 ((rd (A 87) 7) + 1))) (shF F), 0, 0)) hc105 10 rfl ⟨⟨by omega, by omega⟩, ⟨by omega, by omega⟩, ⟨by omega, by omega⟩, ⟨by omega, by omega⟩, trivial⟩ ?_
            refine R_reti hc105 rfl rfl ?_
            refine R_s (f' := (128, [some (vR 88), some (vI p), some (vI q)], [vI (-7)], LAY (u (u (u (u (shA A) 8 l8) 9 l9) 10 l10) 89 (wr (A 87) 7 ((rd (A 87) 7) + 1))) (shF F), 0, 0)) hc118 0 rfl trivial ?_
            refine R_reti hc118 rfl rfl ?_
            first
              | (exfalso; omega; done)
              | exact ⟨(by rw [show (-7) = rd (A 5) p by omega]), (u (u (u A 8 l8) 9 l9) 10 l10), F, rfl, rfl, ⟨(LENS_u (LENS_u (LENS_u hL (by show (l8).length = (A 8).length; rw [k8, hL 8 (by decide)]; rfl)) (by show (l9).length = (A 9).length; rw [k9, hL 9 (by decide)]; rfl)) (by show (l10).length = (A 10).length; rw [k10, hL 10 (by decide)]; rfl)), hR0.2.1, hR0.2.2.1, hR0.2.2.2.1, hR0.2.2.2.2.1, hR0.2.2.2.2.2.1, hR0.2.2.2.2.2.2.1, hR0.2.2.2.2.2.2.2.1, hR0.2.2.2.2.2.2.2.2.1, (REFU_c hR0.2.2.2.2.2.2.2.2.2)⟩⟩
        | 3, hio, c4 =>
          cases hio
          refine R_s (f' := (102, [some (vR 1), some (vI p), some (vI q)], [], LAY (u (u (u (shA A) 8 l8) 9 l9) 10 l10) (shF F), 0, 0)) hc64 0 rfl trivial ?_
          refine R_s (P := (0 ≤ p ∧ p < ((A 6).length : Int)) ∧ True) (f' := (111, [some (vR 1), some (vI p), some (vI q)], [vI (rd (A 6) p)], LAY (u (u (u (shA A) 8 l8) 9 l9) 10 l10) (shF F), 0, 0)) hc64 5 rfl ⟨⟨by omega, by omega⟩, trivial⟩ ?_
          refine R_cs hc64 rfl rfl ?_ (fun r G h => h)
          refine R_s (P := True) (f' := (1, [some (vI (rd (A 6) p))], [vI (rd (A 6) p)], LAY (u (u (u (shA A) 8 l8) 9 l9) 10 l10) (shF F), 0, 0)) hc95 1 rfl trivial ?_
          refine R_if (t := 8) hc95 rfl rfl (fun (c5 : rd (A 6) p = 0) => ?_) (fun (c5 : ¬ (rd (A 6) p = 0)) => ?_)
          · refine R_s (P := True) (f' := (9, [some (vI (rd (A 6) p))], [vI 0], LAY (u (u (u (shA A) 8 l8) 9 l9) 10 l10) (shF F), 0, 0)) hc95 1 rfl trivial ?_
            refine R_reti hc95 rfl rfl ?_
            refine R_s (f' := (114, [some (vR 1), some (vI p), some (vI q)], [vI 0], LAY (u (u (u (shA A) 8 l8) 9 l9) 10 l10) (shF F), 0, 0)) hc64 0 rfl trivial ?_
            refine R_reti hc64 rfl rfl ⟨⟨_, rfl⟩, ⟨_, _, rfl, rfl⟩, ?_⟩
            refine R_s (P := True) (f' := (2, [some (vR 88), some (vI p), some (vI q)], [vI p, vR 88], LAY (u (u (u (shA A) 8 l8) 9 l9) 10 l10) (shF F), 0, 0)) hc118 2 rfl trivial ?_
            refine R_cv hc118 rfl rfl ?_ (fun r G h => h)
            refine R_s (P := inI ((F 3) - 1) ∧ True) (f' := (8, [some (vR 88), some (vI p)], [vI ((F 3) - 1), vI 0, vI p], LAY (u (u (u (shA A) 8 l8) 9 l9) 10 l10) (shF F), 0, 0)) hc106 6 rfl ⟨⟨by omega, by omega⟩, trivial⟩ ?_
            refine R_cs hc106 rfl rfl ?_ (fun r G h => h)
            refine R_s (P := True) (f' := (2, [some (vI p), some (vI 0), some (vI ((F 3) - 1))], [vI 0, vI p], LAY (u (u (u (shA A) 8 l8) 9 l9) 10 l10) (shF F), 0, 0)) hc104 2 rfl trivial ?_
            refine R_ic (t := 14) hc104 rfl rfl (fun (z : p < 0) => absurd z (by omega)) (fun (_ : ¬ (p < 0)) => ?_)
            refine R_s (P := True) (f' := (7, [some (vI p), some (vI 0), some (vI ((F 3) - 1))], [vI ((F 3) - 1), vI p], LAY (u (u (u (shA A) 8 l8) 9 l9) 10 l10) (shF F), 0, 0)) hc104 2 rfl trivial ?_
            refine R_ic (t := 14) hc104 rfl rfl (fun (z : (F 3) - 1 < p) => absurd z (by omega)) (fun (_ : ¬ ((F 3) - 1 < p)) => ?_)
            refine R_s (P := True) (f' := (15, [some (vI p), some (vI 0), some (vI ((F 3) - 1))], [vI 1], LAY (u (u (u (shA A) 8 l8) 9 l9) 10 l10) (shF F), 0, 0)) hc104 2 rfl trivial ?_
            refine R_retz hc104 rfl rfl (Or.inr rfl) ?_
            refine R_s (f' := (11, [some (vR 88), some (vI p)], [vI 1], LAY (u (u (u (shA A) 8 l8) 9 l9) 10 l10) (shF F), 0, 0)) hc106 0 rfl trivial ?_
            refine R_retz hc106 rfl rfl (Or.inr rfl) ?_
            refine R_s (f' := (5, [some (vR 88), some (vI p), some (vI q)], [vI 1], LAY (u (u (u (shA A) 8 l8) 9 l9) 10 l10) (shF F), 0, 0)) hc118 0 rfl trivial ?_
            refine R_if (t := 15) hc118 rfl rfl (fun (_ : ¬ 1 = 0) => ?_) (fun (z : ¬ (¬ 1 = 0)) => absurd (by decide) z)
            refine R_s (P := True) (f' := (16, [some (vR 88), some (vI p), some (vI q)], [vI q], LAY (u (u (u (shA A) 8 l8) 9 l9) 10 l10) (shF F), 0, 0)) hc118 1 rfl trivial ?_
            refine R_sw (t := 122) hc118 rfl (by decide) (fun isw o hio (c109 : q = 0 + isw) => ?_) rfl (fun (c109 : q < 0 ∨ 6 < q) => ?_)
            · match isw, hio, c109 with
              | 0, hio, c109 =>
                cases hio
                refine R_s (f' := (60, [some (vR 88), some (vI p), some (vI q)], [], LAY (u (u (u (shA A) 8 l8) 9 l9) 10 l10) (shF F), 0, 0)) hc118 0 rfl trivial ?_
                refine R_s (P := (0 ≤ p ∧ p < ((A 3).length : Int)) ∧ True) (f' := (66, [some (vR 88), some (vI p), some (vI q)], [vI (rd (A 3) p)], LAY (u (u (u (shA A) 8 l8) 9 l9) 10 l10) (shF F), 0, 0)) hc118 4 rfl ⟨⟨by omega, by omega⟩, trivial⟩ ?_
                refine R_reti hc118 rfl rfl ?_
                first
                  | (exfalso; omega; done)
                  | exact ⟨(by rw [show rd (A 3) p = 0 by omega]), (u (u (u A 8 l8) 9 l9) 10 l10), F, rfl, rfl, ⟨(LENS_u (LENS_u (LENS_u hL (by show (l8).length = (A 8).length; rw [k8, hL 8 (by decide)]; rfl)) (by show (l9).length = (A 9).length; rw [k9, hL 9 (by decide)]; rfl)) (by show (l10).length = (A 10).length; rw [k10, hL 10 (by decide)]; rfl)), hR0.2.1, hR0.2.2.1, hR0.2.2.2.1, hR0.2.2.2.2.1, hR0.2.2.2.2.2.1, hR0.2.2.2.2.2.2.1, hR0.2.2.2.2.2.2.2.1, hR0.2.2.2.2.2.2.2.2.1, (REFU_c hR0.2.2.2.2.2.2.2.2.2)⟩⟩
              | 1, hio, c109 =>
                cases hio
                refine R_s (f' := (67, [some (vR 88), some (vI p), some (vI q)], [], LAY (u (u (u (shA A) 8 l8) 9 l9) 10 l10) (shF F), 0, 0)) hc118 0 rfl trivial ?_
                refine R_s (P := (0 ≤ p ∧ p < ((A 4).length : Int)) ∧ True) (f' := (73, [some (vR 88), some (vI p), some (vI q)], [vI (rd (A 4) p)], LAY (u (u (u (shA A) 8 l8) 9 l9) 10 l10) (shF F), 0, 0)) hc118 4 rfl ⟨⟨by omega, by omega⟩, trivial⟩ ?_
                refine R_reti hc118 rfl rfl ?_
                first
                  | (exfalso; omega; done)
                  | exact ⟨(by rw [show rd (A 4) p = 0 by omega]), (u (u (u A 8 l8) 9 l9) 10 l10), F, rfl, rfl, ⟨(LENS_u (LENS_u (LENS_u hL (by show (l8).length = (A 8).length; rw [k8, hL 8 (by decide)]; rfl)) (by show (l9).length = (A 9).length; rw [k9, hL 9 (by decide)]; rfl)) (by show (l10).length = (A 10).length; rw [k10, hL 10 (by decide)]; rfl)), hR0.2.1, hR0.2.2.1, hR0.2.2.2.1, hR0.2.2.2.2.1, hR0.2.2.2.2.2.1, hR0.2.2.2.2.2.2.1, hR0.2.2.2.2.2.2.2.1, hR0.2.2.2.2.2.2.2.2.1, (REFU_c hR0.2.2.2.2.2.2.2.2.2)⟩⟩
              | 2, hio, c109 =>
                cases hio
                refine R_s (f' := (74, [some (vR 88), some (vI p), some (vI q)], [], LAY (u (u (u (shA A) 8 l8) 9 l9) 10 l10) (shF F), 0, 0)) hc118 0 rfl trivial ?_
                refine R_s (P := (0 ≤ p ∧ p < ((A 5).length : Int)) ∧ True) (f' := (80, [some (vR 88), some (vI p), some (vI q)], [vI (rd (A 5) p)], LAY (u (u (u (shA A) 8 l8) 9 l9) 10 l10) (shF F), 0, 0)) hc118 4 rfl ⟨⟨by omega, by omega⟩, trivial⟩ ?_
                refine R_reti hc118 rfl rfl ?_
                first
                  | (exfalso; omega; done)
                  | exact ⟨(by rw [show rd (A 5) p = 0 by omega]), (u (u (u A 8 l8) 9 l9) 10 l10), F, rfl, rfl, ⟨(LENS_u (LENS_u (LENS_u hL (by show (l8).length = (A 8).length; rw [k8, hL 8 (by decide)]; rfl)) (by show (l9).length = (A 9).length; rw [k9, hL 9 (by decide)]; rfl)) (by show (l10).length = (A 10).length; rw [k10, hL 10 (by decide)]; rfl)), hR0.2.1, hR0.2.2.1, hR0.2.2.2.1, hR0.2.2.2.2.1, hR0.2.2.2.2.2.1, hR0.2.2.2.2.2.2.1, hR0.2.2.2.2.2.2.2.1, hR0.2.2.2.2.2.2.2.2.1, (REFU_c hR0.2.2.2.2.2.2.2.2.2)⟩⟩
              | 3, hio, c109 =>
                cases hio
                refine R_s (f' := (81, [some (vR 88), some (vI p), some (vI q)], [], LAY (u (u (u (shA A) 8 l8) 9 l9) 10 l10) (shF F), 0, 0)) hc118 0 rfl trivial ?_
                refine R_s (P := (0 ≤ p ∧ p < ((A 6).length : Int)) ∧ True) (f' := (87, [some (vR 88), some (vI p), some (vI q)], [vI (rd (A 6) p)], LAY (u (u (u (shA A) 8 l8) 9 l9) 10 l10) (shF F), 0, 0)) hc118 4 rfl ⟨⟨by omega, by omega⟩, trivial⟩ ?_
                refine R_if (t := 94) hc118 rfl rfl (fun (_ : rd (A 6) p = 0) => ?_) (fun (z : ¬ (rd (A 6) p = 0)) => absurd (show rd (A 6) p = 0 by omega) z)
                refine R_s (P := True) (f' := (95, [some (vR 88), some (vI p), some (vI q)], [vI 0], LAY (u (u (u (shA A) 8 l8) 9 l9) 10 l10) (shF F), 0, 0)) hc118 1 rfl trivial ?_
                refine R_reti hc118 rfl rfl ?_
                first
                  | (exfalso; omega; done)
                  | exact ⟨rfl, (u (u (u A 8 l8) 9 l9) 10 l10), F, rfl, rfl, ⟨(LENS_u (LENS_u (LENS_u hL (by show (l8).length = (A 8).length; rw [k8, hL 8 (by decide)]; rfl)) (by show (l9).length = (A 9).length; rw [k9, hL 9 (by decide)]; rfl)) (by show (l10).length = (A 10).length; rw [k10, hL 10 (by decide)]; rfl)), hR0.2.1, hR0.2.2.1, hR0.2.2.2.1, hR0.2.2.2.2.1, hR0.2.2.2.2.2.1, hR0.2.2.2.2.2.2.1, hR0.2.2.2.2.2.2.2.1, hR0.2.2.2.2.2.2.2.2.1, (REFU_c hR0.2.2.2.2.2.2.2.2.2)⟩⟩
              | 4, hio, c109 =>
                cases hio
                refine R_s (f' := (96, [some (vR 88), some (vI p), some (vI q)], [], LAY (u (u (u (shA A) 8 l8) 9 l9) 10 l10) (shF F), 0, 0)) hc118 0 rfl trivial ?_
                refine R_s (P := True) (f' := (98, [some (vR 88), some (vI p), some (vI q)], [vI p, vR 88], LAY (u (u (u (shA A) 8 l8) 9 l9) 10 l10) (shF F), 0, 0)) hc118 2 rfl trivial ?_
                refine R_cv hc118 rfl rfl (l_lives (A := (u (u (u (shA A) 8 l8) 9 l9) 10 l10)) (F := (shF F)) (n := (F 3).toNat) (R_n hR0) (R_n30 hR0) (hL 4 (by decide)) (hL 5 (by decide)) (hL 6 (by decide)) (hL 94 (by decide)) (R_U (A := A) hR0) (fun p hp => (R_mT (A := A) hR0 p hp).1) (al := N_al A F) (N_al_m (A := A) hR0) (k := p.toNat) (by omega) (by omega)) (fun r G9 hp9 => ?_)
                obtain ⟨rfl, rfl⟩ := hp9
                refine R_s (f' := (101, [some (vR 88), some (vI p), some (vI q)], [vI (N_al A F p.toNat)], LAY (u (u (u (shA A) 8 l8) 9 l9) 10 l10) (shF F), 0, 0)) hc118 0 rfl trivial ?_
                refine R_if (t := 108) hc118 rfl rfl (fun (c111 : N_al A F p.toNat = 0) => ?_) (fun (c111 : ¬ (N_al A F p.toNat = 0)) => ?_)
                · refine R_s (P := True) (f' := (109, [some (vR 88), some (vI p), some (vI q)], [vI 0], LAY (u (u (u (shA A) 8 l8) 9 l9) 10 l10) (shF F), 0, 0)) hc118 1 rfl trivial ?_
                  refine R_reti hc118 rfl rfl ?_
                  first
                    | (exfalso; omega; done)
                    | exact ⟨rfl, (u (u (u A 8 l8) 9 l9) 10 l10), F, rfl, rfl, ⟨(LENS_u (LENS_u (LENS_u hL (by show (l8).length = (A 8).length; rw [k8, hL 8 (by decide)]; rfl)) (by show (l9).length = (A 9).length; rw [k9, hL 9 (by decide)]; rfl)) (by show (l10).length = (A 10).length; rw [k10, hL 10 (by decide)]; rfl)), hR0.2.1, hR0.2.2.1, hR0.2.2.2.1, hR0.2.2.2.2.1, hR0.2.2.2.2.2.1, hR0.2.2.2.2.2.2.1, hR0.2.2.2.2.2.2.2.1, hR0.2.2.2.2.2.2.2.2.1, (REFU_c hR0.2.2.2.2.2.2.2.2.2)⟩⟩
                · refine R_s (P := True) (f' := (109, [some (vR 88), some (vI p), some (vI q)], [vI 1], LAY (u (u (u (shA A) 8 l8) 9 l9) 10 l10) (shF F), 0, 0)) hc118 2 rfl trivial ?_
                  refine R_reti hc118 rfl rfl ?_
                  first
                    | (exfalso; omega; done)
                    | exact ⟨(by rw [show 1 = 0 by omega]), (u (u (u A 8 l8) 9 l9) 10 l10), F, rfl, rfl, ⟨(LENS_u (LENS_u (LENS_u hL (by show (l8).length = (A 8).length; rw [k8, hL 8 (by decide)]; rfl)) (by show (l9).length = (A 9).length; rw [k9, hL 9 (by decide)]; rfl)) (by show (l10).length = (A 10).length; rw [k10, hL 10 (by decide)]; rfl)), hR0.2.1, hR0.2.2.1, hR0.2.2.2.1, hR0.2.2.2.2.1, hR0.2.2.2.2.2.1, hR0.2.2.2.2.2.2.1, hR0.2.2.2.2.2.2.2.1, hR0.2.2.2.2.2.2.2.2.1, (REFU_c hR0.2.2.2.2.2.2.2.2.2)⟩⟩
              | 5, hio, c109 =>
                cases hio
                refine R_s (f' := (110, [some (vR 88), some (vI p), some (vI q)], [], LAY (u (u (u (shA A) 8 l8) 9 l9) 10 l10) (shF F), 0, 0)) hc118 0 rfl trivial ?_
                refine R_s (P := True) (f' := (112, [some (vR 88), some (vI p), some (vI q)], [vI p, vR 88], LAY (u (u (u (shA A) 8 l8) 9 l9) 10 l10) (shF F), 0, 0)) hc118 2 rfl trivial ?_
                refine R_cv hc118 rfl rfl (l_childrenM (A := (u (u (u (shA A) 8 l8) 9 l9) 10 l10)) (F := (shF F)) (n := (F 3).toNat) (R_n hR0) (R_n30 hR0) (hL 3 (by decide)) (q := p)) (fun r G9 hp9 => ?_)
                obtain ⟨rfl, rfl⟩ := hp9
                refine R_s (f' := (115, [some (vR 88), some (vI p), some (vI q)], [vI (sm (fun c => if rd (A 3) c = p then 1 else 0) (F 3).toNat)], LAY (u (u (u (shA A) 8 l8) 9 l9) 10 l10) (shF F), 0, 0)) hc118 0 rfl trivial ?_
                refine R_reti hc118 rfl rfl ?_
                first
                  | (exfalso; omega; done)
                  | exact ⟨(by rw [show sm (fun c => if rd (A 3) c = p then 1 else 0) (F 3).toNat = 0 by omega]), (u (u (u A 8 l8) 9 l9) 10 l10), F, rfl, rfl, ⟨(LENS_u (LENS_u (LENS_u hL (by show (l8).length = (A 8).length; rw [k8, hL 8 (by decide)]; rfl)) (by show (l9).length = (A 9).length; rw [k9, hL 9 (by decide)]; rfl)) (by show (l10).length = (A 10).length; rw [k10, hL 10 (by decide)]; rfl)), hR0.2.1, hR0.2.2.1, hR0.2.2.2.1, hR0.2.2.2.2.1, hR0.2.2.2.2.2.1, hR0.2.2.2.2.2.2.1, hR0.2.2.2.2.2.2.2.1, hR0.2.2.2.2.2.2.2.2.1, (REFU_c hR0.2.2.2.2.2.2.2.2.2)⟩⟩
              | 6, hio, c109 =>
                cases hio
                refine R_s (f' := (116, [some (vR 88), some (vI p), some (vI q)], [], LAY (u (u (u (shA A) 8 l8) 9 l9) 10 l10) (shF F), 0, 0)) hc118 0 rfl trivial ?_
                refine R_s (P := True) (f' := (118, [some (vR 88), some (vI p), some (vI q)], [vI p, vR 88], LAY (u (u (u (shA A) 8 l8) 9 l9) 10 l10) (shF F), 0, 0)) hc118 2 rfl trivial ?_
                refine R_cv hc118 rfl rfl (l_ofLine (A := (u (u (u (shA A) 8 l8) 9 l9) 10 l10)) (F := (shF F)) (n := (F 3).toNat) (R_n hR0) (R_n30 hR0) (hL 4 (by decide)) (hL 5 (by decide)) (hL 6 (by decide)) (hL 94 (by decide)) (R_U (A := A) hR0) (fun p hp => (R_mT (A := A) hR0 p hp).1) (al := N_al A F) (N_al_m (A := A) hR0) (R_TR (A := A) hR0) (hL 3 (by decide)) (ro := p.toNat) (by omega) (by omega) (hL 104 (by decide)) (hL 105 (by decide))) (fun r G9 hp9 => ?_)
                obtain ⟨e1, l104, l105, rfl, k104, k105, w0⟩ := hp9
                have e2 : r = some (vI (rd l9 p)) := by
                  rw [y8.2]
                  exact e1
                clear e1
                subst e2
                refine R_s (f' := (121, [some (vR 88), some (vI p), some (vI q)], [vI (rd l9 p)], LAY (u (u (u (u (u (shA A) 8 l8) 9 l9) 10 l10) 104 l104) 105 l105) (shF F), 0, 0)) hc118 0 rfl trivial ?_
                refine R_reti hc118 rfl rfl ?_
                first
                  | (exfalso; omega; done)
                  | exact ⟨(by rw [show rd l9 p = 0 by omega]), (u (u (u (u (u A 8 l8) 9 l9) 10 l10) 104 l104) 105 l105), F, rfl, rfl, ⟨(LENS_u (LENS_u (LENS_u (LENS_u (LENS_u hL (by show (l8).length = (A 8).length; rw [k8, hL 8 (by decide)]; rfl)) (by show (l9).length = (A 9).length; rw [k9, hL 9 (by decide)]; rfl)) (by show (l10).length = (A 10).length; rw [k10, hL 10 (by decide)]; rfl)) (by show (l104).length = (A 104).length; rw [k104, hL 104 (by decide)]; rfl)) (by show (l105).length = (A 105).length; rw [k105, hL 105 (by decide)]; rfl)), hR0.2.1, hR0.2.2.1, hR0.2.2.2.1, hR0.2.2.2.2.1, hR0.2.2.2.2.2.1, hR0.2.2.2.2.2.2.1, hR0.2.2.2.2.2.2.2.1, hR0.2.2.2.2.2.2.2.2.1, (REFU_c hR0.2.2.2.2.2.2.2.2.2)⟩⟩
              | isw + 7, hio, c109 => exact absurd hio (by simp)
            · refine R_s (P := True) (f' := (125, [some (vR 88), some (vI p), some (vI q)], [vI (-7), vR 88], LAY (u (u (u (shA A) 8 l8) 9 l9) 10 l10) (shF F), 0, 0)) hc118 2 rfl trivial ?_
              refine R_cv hc118 rfl rfl ?_ (fun r G h => h)
              refine R_s (P := inI 7 ∧ (0 ≤ 7 ∧ 7 < ((A 87).length : Int)) ∧ inI ((rd (A 87) 7) + 1) ∧ (0 ≤ 7 ∧ 7 < ((A 87).length : Int)) ∧ True) (f' := (12, [some (vR 88), some (vI (-7))], [vI (-7)], LAY (u (u (u (u (shA A) 8 l8) 9 l9) 10 l10) 89 (wr (A 87) 7 ((rd (A 87) 7) + 1))) (shF F), 0, 0)) hc105 10 rfl ⟨⟨by omega, by omega⟩, ⟨by omega, by omega⟩, ⟨by omega, by omega⟩, ⟨by omega, by omega⟩, trivial⟩ ?_
              refine R_reti hc105 rfl rfl ?_
              refine R_s (f' := (128, [some (vR 88), some (vI p), some (vI q)], [vI (-7)], LAY (u (u (u (u (shA A) 8 l8) 9 l9) 10 l10) 89 (wr (A 87) 7 ((rd (A 87) 7) + 1))) (shF F), 0, 0)) hc118 0 rfl trivial ?_
              refine R_reti hc118 rfl rfl ?_
              first
                | (exfalso; omega; done)
                | exact ⟨(by rw [show (-7) = 0 by omega]), (u (u (u A 8 l8) 9 l9) 10 l10), F, rfl, rfl, ⟨(LENS_u (LENS_u (LENS_u hL (by show (l8).length = (A 8).length; rw [k8, hL 8 (by decide)]; rfl)) (by show (l9).length = (A 9).length; rw [k9, hL 9 (by decide)]; rfl)) (by show (l10).length = (A 10).length; rw [k10, hL 10 (by decide)]; rfl)), hR0.2.1, hR0.2.2.1, hR0.2.2.2.1, hR0.2.2.2.2.1, hR0.2.2.2.2.2.1, hR0.2.2.2.2.2.2.1, hR0.2.2.2.2.2.2.2.1, hR0.2.2.2.2.2.2.2.2.1, (REFU_c hR0.2.2.2.2.2.2.2.2.2)⟩⟩
          · refine R_s (P := True) (f' := (9, [some (vI (rd (A 6) p))], [vI 1], LAY (u (u (u (shA A) 8 l8) 9 l9) 10 l10) (shF F), 0, 0)) hc95 2 rfl trivial ?_
            refine R_reti hc95 rfl rfl ?_
            refine R_s (f' := (114, [some (vR 1), some (vI p), some (vI q)], [vI 1], LAY (u (u (u (shA A) 8 l8) 9 l9) 10 l10) (shF F), 0, 0)) hc64 0 rfl trivial ?_
            refine R_reti hc64 rfl rfl ⟨⟨_, rfl⟩, ⟨_, _, rfl, rfl⟩, ?_⟩
            refine R_s (P := True) (f' := (2, [some (vR 88), some (vI p), some (vI q)], [vI p, vR 88], LAY (u (u (u (shA A) 8 l8) 9 l9) 10 l10) (shF F), 0, 0)) hc118 2 rfl trivial ?_
            refine R_cv hc118 rfl rfl ?_ (fun r G h => h)
            refine R_s (P := inI ((F 3) - 1) ∧ True) (f' := (8, [some (vR 88), some (vI p)], [vI ((F 3) - 1), vI 0, vI p], LAY (u (u (u (shA A) 8 l8) 9 l9) 10 l10) (shF F), 0, 0)) hc106 6 rfl ⟨⟨by omega, by omega⟩, trivial⟩ ?_
            refine R_cs hc106 rfl rfl ?_ (fun r G h => h)
            refine R_s (P := True) (f' := (2, [some (vI p), some (vI 0), some (vI ((F 3) - 1))], [vI 0, vI p], LAY (u (u (u (shA A) 8 l8) 9 l9) 10 l10) (shF F), 0, 0)) hc104 2 rfl trivial ?_
            refine R_ic (t := 14) hc104 rfl rfl (fun (z : p < 0) => absurd z (by omega)) (fun (_ : ¬ (p < 0)) => ?_)
            refine R_s (P := True) (f' := (7, [some (vI p), some (vI 0), some (vI ((F 3) - 1))], [vI ((F 3) - 1), vI p], LAY (u (u (u (shA A) 8 l8) 9 l9) 10 l10) (shF F), 0, 0)) hc104 2 rfl trivial ?_
            refine R_ic (t := 14) hc104 rfl rfl (fun (z : (F 3) - 1 < p) => absurd z (by omega)) (fun (_ : ¬ ((F 3) - 1 < p)) => ?_)
            refine R_s (P := True) (f' := (15, [some (vI p), some (vI 0), some (vI ((F 3) - 1))], [vI 1], LAY (u (u (u (shA A) 8 l8) 9 l9) 10 l10) (shF F), 0, 0)) hc104 2 rfl trivial ?_
            refine R_retz hc104 rfl rfl (Or.inr rfl) ?_
            refine R_s (f' := (11, [some (vR 88), some (vI p)], [vI 1], LAY (u (u (u (shA A) 8 l8) 9 l9) 10 l10) (shF F), 0, 0)) hc106 0 rfl trivial ?_
            refine R_retz hc106 rfl rfl (Or.inr rfl) ?_
            refine R_s (f' := (5, [some (vR 88), some (vI p), some (vI q)], [vI 1], LAY (u (u (u (shA A) 8 l8) 9 l9) 10 l10) (shF F), 0, 0)) hc118 0 rfl trivial ?_
            refine R_if (t := 15) hc118 rfl rfl (fun (_ : ¬ 1 = 0) => ?_) (fun (z : ¬ (¬ 1 = 0)) => absurd (by decide) z)
            refine R_s (P := True) (f' := (16, [some (vR 88), some (vI p), some (vI q)], [vI q], LAY (u (u (u (shA A) 8 l8) 9 l9) 10 l10) (shF F), 0, 0)) hc118 1 rfl trivial ?_
            refine R_sw (t := 122) hc118 rfl (by decide) (fun isw o hio (c109 : q = 0 + isw) => ?_) rfl (fun (c109 : q < 0 ∨ 6 < q) => ?_)
            · match isw, hio, c109 with
              | 0, hio, c109 =>
                cases hio
                refine R_s (f' := (60, [some (vR 88), some (vI p), some (vI q)], [], LAY (u (u (u (shA A) 8 l8) 9 l9) 10 l10) (shF F), 0, 0)) hc118 0 rfl trivial ?_
                refine R_s (P := (0 ≤ p ∧ p < ((A 3).length : Int)) ∧ True) (f' := (66, [some (vR 88), some (vI p), some (vI q)], [vI (rd (A 3) p)], LAY (u (u (u (shA A) 8 l8) 9 l9) 10 l10) (shF F), 0, 0)) hc118 4 rfl ⟨⟨by omega, by omega⟩, trivial⟩ ?_
                refine R_reti hc118 rfl rfl ?_
                first
                  | (exfalso; omega; done)
                  | exact ⟨(by rw [show rd (A 3) p = 1 by omega]), (u (u (u A 8 l8) 9 l9) 10 l10), F, rfl, rfl, ⟨(LENS_u (LENS_u (LENS_u hL (by show (l8).length = (A 8).length; rw [k8, hL 8 (by decide)]; rfl)) (by show (l9).length = (A 9).length; rw [k9, hL 9 (by decide)]; rfl)) (by show (l10).length = (A 10).length; rw [k10, hL 10 (by decide)]; rfl)), hR0.2.1, hR0.2.2.1, hR0.2.2.2.1, hR0.2.2.2.2.1, hR0.2.2.2.2.2.1, hR0.2.2.2.2.2.2.1, hR0.2.2.2.2.2.2.2.1, hR0.2.2.2.2.2.2.2.2.1, (REFU_c hR0.2.2.2.2.2.2.2.2.2)⟩⟩
              | 1, hio, c109 =>
                cases hio
                refine R_s (f' := (67, [some (vR 88), some (vI p), some (vI q)], [], LAY (u (u (u (shA A) 8 l8) 9 l9) 10 l10) (shF F), 0, 0)) hc118 0 rfl trivial ?_
                refine R_s (P := (0 ≤ p ∧ p < ((A 4).length : Int)) ∧ True) (f' := (73, [some (vR 88), some (vI p), some (vI q)], [vI (rd (A 4) p)], LAY (u (u (u (shA A) 8 l8) 9 l9) 10 l10) (shF F), 0, 0)) hc118 4 rfl ⟨⟨by omega, by omega⟩, trivial⟩ ?_
                refine R_reti hc118 rfl rfl ?_
                first
                  | (exfalso; omega; done)
                  | exact ⟨(by rw [show rd (A 4) p = 1 by omega]), (u (u (u A 8 l8) 9 l9) 10 l10), F, rfl, rfl, ⟨(LENS_u (LENS_u (LENS_u hL (by show (l8).length = (A 8).length; rw [k8, hL 8 (by decide)]; rfl)) (by show (l9).length = (A 9).length; rw [k9, hL 9 (by decide)]; rfl)) (by show (l10).length = (A 10).length; rw [k10, hL 10 (by decide)]; rfl)), hR0.2.1, hR0.2.2.1, hR0.2.2.2.1, hR0.2.2.2.2.1, hR0.2.2.2.2.2.1, hR0.2.2.2.2.2.2.1, hR0.2.2.2.2.2.2.2.1, hR0.2.2.2.2.2.2.2.2.1, (REFU_c hR0.2.2.2.2.2.2.2.2.2)⟩⟩
              | 2, hio, c109 =>
                cases hio
                refine R_s (f' := (74, [some (vR 88), some (vI p), some (vI q)], [], LAY (u (u (u (shA A) 8 l8) 9 l9) 10 l10) (shF F), 0, 0)) hc118 0 rfl trivial ?_
                refine R_s (P := (0 ≤ p ∧ p < ((A 5).length : Int)) ∧ True) (f' := (80, [some (vR 88), some (vI p), some (vI q)], [vI (rd (A 5) p)], LAY (u (u (u (shA A) 8 l8) 9 l9) 10 l10) (shF F), 0, 0)) hc118 4 rfl ⟨⟨by omega, by omega⟩, trivial⟩ ?_
                refine R_reti hc118 rfl rfl ?_
                first
                  | (exfalso; omega; done)
                  | exact ⟨(by rw [show rd (A 5) p = 1 by omega]), (u (u (u A 8 l8) 9 l9) 10 l10), F, rfl, rfl, ⟨(LENS_u (LENS_u (LENS_u hL (by show (l8).length = (A 8).length; rw [k8, hL 8 (by decide)]; rfl)) (by show (l9).length = (A 9).length; rw [k9, hL 9 (by decide)]; rfl)) (by show (l10).length = (A 10).length; rw [k10, hL 10 (by decide)]; rfl)), hR0.2.1, hR0.2.2.1, hR0.2.2.2.1, hR0.2.2.2.2.1, hR0.2.2.2.2.2.1, hR0.2.2.2.2.2.2.1, hR0.2.2.2.2.2.2.2.1, hR0.2.2.2.2.2.2.2.2.1, (REFU_c hR0.2.2.2.2.2.2.2.2.2)⟩⟩
              | 3, hio, c109 =>
                cases hio
                refine R_s (f' := (81, [some (vR 88), some (vI p), some (vI q)], [], LAY (u (u (u (shA A) 8 l8) 9 l9) 10 l10) (shF F), 0, 0)) hc118 0 rfl trivial ?_
                refine R_s (P := (0 ≤ p ∧ p < ((A 6).length : Int)) ∧ True) (f' := (87, [some (vR 88), some (vI p), some (vI q)], [vI (rd (A 6) p)], LAY (u (u (u (shA A) 8 l8) 9 l9) 10 l10) (shF F), 0, 0)) hc118 4 rfl ⟨⟨by omega, by omega⟩, trivial⟩ ?_
                refine R_if (t := 94) hc118 rfl rfl (fun (z : rd (A 6) p = 0) => absurd z (by omega)) (fun (_ : ¬ (rd (A 6) p = 0)) => ?_)
                refine R_s (P := True) (f' := (95, [some (vR 88), some (vI p), some (vI q)], [vI 1], LAY (u (u (u (shA A) 8 l8) 9 l9) 10 l10) (shF F), 0, 0)) hc118 2 rfl trivial ?_
                refine R_reti hc118 rfl rfl ?_
                first
                  | (exfalso; omega; done)
                  | exact ⟨rfl, (u (u (u A 8 l8) 9 l9) 10 l10), F, rfl, rfl, ⟨(LENS_u (LENS_u (LENS_u hL (by show (l8).length = (A 8).length; rw [k8, hL 8 (by decide)]; rfl)) (by show (l9).length = (A 9).length; rw [k9, hL 9 (by decide)]; rfl)) (by show (l10).length = (A 10).length; rw [k10, hL 10 (by decide)]; rfl)), hR0.2.1, hR0.2.2.1, hR0.2.2.2.1, hR0.2.2.2.2.1, hR0.2.2.2.2.2.1, hR0.2.2.2.2.2.2.1, hR0.2.2.2.2.2.2.2.1, hR0.2.2.2.2.2.2.2.2.1, (REFU_c hR0.2.2.2.2.2.2.2.2.2)⟩⟩
              | 4, hio, c109 =>
                cases hio
                refine R_s (f' := (96, [some (vR 88), some (vI p), some (vI q)], [], LAY (u (u (u (shA A) 8 l8) 9 l9) 10 l10) (shF F), 0, 0)) hc118 0 rfl trivial ?_
                refine R_s (P := True) (f' := (98, [some (vR 88), some (vI p), some (vI q)], [vI p, vR 88], LAY (u (u (u (shA A) 8 l8) 9 l9) 10 l10) (shF F), 0, 0)) hc118 2 rfl trivial ?_
                refine R_cv hc118 rfl rfl (l_lives (A := (u (u (u (shA A) 8 l8) 9 l9) 10 l10)) (F := (shF F)) (n := (F 3).toNat) (R_n hR0) (R_n30 hR0) (hL 4 (by decide)) (hL 5 (by decide)) (hL 6 (by decide)) (hL 94 (by decide)) (R_U (A := A) hR0) (fun p hp => (R_mT (A := A) hR0 p hp).1) (al := N_al A F) (N_al_m (A := A) hR0) (k := p.toNat) (by omega) (by omega)) (fun r G9 hp9 => ?_)
                obtain ⟨rfl, rfl⟩ := hp9
                refine R_s (f' := (101, [some (vR 88), some (vI p), some (vI q)], [vI (N_al A F p.toNat)], LAY (u (u (u (shA A) 8 l8) 9 l9) 10 l10) (shF F), 0, 0)) hc118 0 rfl trivial ?_
                refine R_if (t := 108) hc118 rfl rfl (fun (c111 : N_al A F p.toNat = 0) => ?_) (fun (c111 : ¬ (N_al A F p.toNat = 0)) => ?_)
                · refine R_s (P := True) (f' := (109, [some (vR 88), some (vI p), some (vI q)], [vI 0], LAY (u (u (u (shA A) 8 l8) 9 l9) 10 l10) (shF F), 0, 0)) hc118 1 rfl trivial ?_
                  refine R_reti hc118 rfl rfl ?_
                  first
                    | (exfalso; omega; done)
                    | exact ⟨(by rw [show 0 = 1 by omega]), (u (u (u A 8 l8) 9 l9) 10 l10), F, rfl, rfl, ⟨(LENS_u (LENS_u (LENS_u hL (by show (l8).length = (A 8).length; rw [k8, hL 8 (by decide)]; rfl)) (by show (l9).length = (A 9).length; rw [k9, hL 9 (by decide)]; rfl)) (by show (l10).length = (A 10).length; rw [k10, hL 10 (by decide)]; rfl)), hR0.2.1, hR0.2.2.1, hR0.2.2.2.1, hR0.2.2.2.2.1, hR0.2.2.2.2.2.1, hR0.2.2.2.2.2.2.1, hR0.2.2.2.2.2.2.2.1, hR0.2.2.2.2.2.2.2.2.1, (REFU_c hR0.2.2.2.2.2.2.2.2.2)⟩⟩
                · refine R_s (P := True) (f' := (109, [some (vR 88), some (vI p), some (vI q)], [vI 1], LAY (u (u (u (shA A) 8 l8) 9 l9) 10 l10) (shF F), 0, 0)) hc118 2 rfl trivial ?_
                  refine R_reti hc118 rfl rfl ?_
                  first
                    | (exfalso; omega; done)
                    | exact ⟨rfl, (u (u (u A 8 l8) 9 l9) 10 l10), F, rfl, rfl, ⟨(LENS_u (LENS_u (LENS_u hL (by show (l8).length = (A 8).length; rw [k8, hL 8 (by decide)]; rfl)) (by show (l9).length = (A 9).length; rw [k9, hL 9 (by decide)]; rfl)) (by show (l10).length = (A 10).length; rw [k10, hL 10 (by decide)]; rfl)), hR0.2.1, hR0.2.2.1, hR0.2.2.2.1, hR0.2.2.2.2.1, hR0.2.2.2.2.2.1, hR0.2.2.2.2.2.2.1, hR0.2.2.2.2.2.2.2.1, hR0.2.2.2.2.2.2.2.2.1, (REFU_c hR0.2.2.2.2.2.2.2.2.2)⟩⟩
              | 5, hio, c109 =>
                cases hio
                refine R_s (f' := (110, [some (vR 88), some (vI p), some (vI q)], [], LAY (u (u (u (shA A) 8 l8) 9 l9) 10 l10) (shF F), 0, 0)) hc118 0 rfl trivial ?_
                refine R_s (P := True) (f' := (112, [some (vR 88), some (vI p), some (vI q)], [vI p, vR 88], LAY (u (u (u (shA A) 8 l8) 9 l9) 10 l10) (shF F), 0, 0)) hc118 2 rfl trivial ?_
                refine R_cv hc118 rfl rfl (l_childrenM (A := (u (u (u (shA A) 8 l8) 9 l9) 10 l10)) (F := (shF F)) (n := (F 3).toNat) (R_n hR0) (R_n30 hR0) (hL 3 (by decide)) (q := p)) (fun r G9 hp9 => ?_)
                obtain ⟨rfl, rfl⟩ := hp9
                refine R_s (f' := (115, [some (vR 88), some (vI p), some (vI q)], [vI (sm (fun c => if rd (A 3) c = p then 1 else 0) (F 3).toNat)], LAY (u (u (u (shA A) 8 l8) 9 l9) 10 l10) (shF F), 0, 0)) hc118 0 rfl trivial ?_
                refine R_reti hc118 rfl rfl ?_
                first
                  | (exfalso; omega; done)
                  | exact ⟨(by rw [show sm (fun c => if rd (A 3) c = p then 1 else 0) (F 3).toNat = 1 by omega]), (u (u (u A 8 l8) 9 l9) 10 l10), F, rfl, rfl, ⟨(LENS_u (LENS_u (LENS_u hL (by show (l8).length = (A 8).length; rw [k8, hL 8 (by decide)]; rfl)) (by show (l9).length = (A 9).length; rw [k9, hL 9 (by decide)]; rfl)) (by show (l10).length = (A 10).length; rw [k10, hL 10 (by decide)]; rfl)), hR0.2.1, hR0.2.2.1, hR0.2.2.2.1, hR0.2.2.2.2.1, hR0.2.2.2.2.2.1, hR0.2.2.2.2.2.2.1, hR0.2.2.2.2.2.2.2.1, hR0.2.2.2.2.2.2.2.2.1, (REFU_c hR0.2.2.2.2.2.2.2.2.2)⟩⟩
              | 6, hio, c109 =>
                cases hio
                refine R_s (f' := (116, [some (vR 88), some (vI p), some (vI q)], [], LAY (u (u (u (shA A) 8 l8) 9 l9) 10 l10) (shF F), 0, 0)) hc118 0 rfl trivial ?_
                refine R_s (P := True) (f' := (118, [some (vR 88), some (vI p), some (vI q)], [vI p, vR 88], LAY (u (u (u (shA A) 8 l8) 9 l9) 10 l10) (shF F), 0, 0)) hc118 2 rfl trivial ?_
                refine R_cv hc118 rfl rfl (l_ofLine (A := (u (u (u (shA A) 8 l8) 9 l9) 10 l10)) (F := (shF F)) (n := (F 3).toNat) (R_n hR0) (R_n30 hR0) (hL 4 (by decide)) (hL 5 (by decide)) (hL 6 (by decide)) (hL 94 (by decide)) (R_U (A := A) hR0) (fun p hp => (R_mT (A := A) hR0 p hp).1) (al := N_al A F) (N_al_m (A := A) hR0) (R_TR (A := A) hR0) (hL 3 (by decide)) (ro := p.toNat) (by omega) (by omega) (hL 104 (by decide)) (hL 105 (by decide))) (fun r G9 hp9 => ?_)
                obtain ⟨e1, l104, l105, rfl, k104, k105, w0⟩ := hp9
                have e2 : r = some (vI (rd l9 p)) := by
                  rw [y8.2]
                  exact e1
                clear e1
                subst e2
                refine R_s (f' := (121, [some (vR 88), some (vI p), some (vI q)], [vI (rd l9 p)], LAY (u (u (u (u (u (shA A) 8 l8) 9 l9) 10 l10) 104 l104) 105 l105) (shF F), 0, 0)) hc118 0 rfl trivial ?_
                refine R_reti hc118 rfl rfl ?_
                first
                  | (exfalso; omega; done)
                  | exact ⟨(by rw [show rd l9 p = 1 by omega]), (u (u (u (u (u A 8 l8) 9 l9) 10 l10) 104 l104) 105 l105), F, rfl, rfl, ⟨(LENS_u (LENS_u (LENS_u (LENS_u (LENS_u hL (by show (l8).length = (A 8).length; rw [k8, hL 8 (by decide)]; rfl)) (by show (l9).length = (A 9).length; rw [k9, hL 9 (by decide)]; rfl)) (by show (l10).length = (A 10).length; rw [k10, hL 10 (by decide)]; rfl)) (by show (l104).length = (A 104).length; rw [k104, hL 104 (by decide)]; rfl)) (by show (l105).length = (A 105).length; rw [k105, hL 105 (by decide)]; rfl)), hR0.2.1, hR0.2.2.1, hR0.2.2.2.1, hR0.2.2.2.2.1, hR0.2.2.2.2.2.1, hR0.2.2.2.2.2.2.1, hR0.2.2.2.2.2.2.2.1, hR0.2.2.2.2.2.2.2.2.1, (REFU_c hR0.2.2.2.2.2.2.2.2.2)⟩⟩
              | isw + 7, hio, c109 => exact absurd hio (by simp)
            · refine R_s (P := True) (f' := (125, [some (vR 88), some (vI p), some (vI q)], [vI (-7), vR 88], LAY (u (u (u (shA A) 8 l8) 9 l9) 10 l10) (shF F), 0, 0)) hc118 2 rfl trivial ?_
              refine R_cv hc118 rfl rfl ?_ (fun r G h => h)
              refine R_s (P := inI 7 ∧ (0 ≤ 7 ∧ 7 < ((A 87).length : Int)) ∧ inI ((rd (A 87) 7) + 1) ∧ (0 ≤ 7 ∧ 7 < ((A 87).length : Int)) ∧ True) (f' := (12, [some (vR 88), some (vI (-7))], [vI (-7)], LAY (u (u (u (u (shA A) 8 l8) 9 l9) 10 l10) 89 (wr (A 87) 7 ((rd (A 87) 7) + 1))) (shF F), 0, 0)) hc105 10 rfl ⟨⟨by omega, by omega⟩, ⟨by omega, by omega⟩, ⟨by omega, by omega⟩, ⟨by omega, by omega⟩, trivial⟩ ?_
              refine R_reti hc105 rfl rfl ?_
              refine R_s (f' := (128, [some (vR 88), some (vI p), some (vI q)], [vI (-7)], LAY (u (u (u (u (shA A) 8 l8) 9 l9) 10 l10) 89 (wr (A 87) 7 ((rd (A 87) 7) + 1))) (shF F), 0, 0)) hc118 0 rfl trivial ?_
              refine R_reti hc118 rfl rfl ?_
              first
                | (exfalso; omega; done)
                | exact ⟨(by rw [show (-7) = 1 by omega]), (u (u (u A 8 l8) 9 l9) 10 l10), F, rfl, rfl, ⟨(LENS_u (LENS_u (LENS_u hL (by show (l8).length = (A 8).length; rw [k8, hL 8 (by decide)]; rfl)) (by show (l9).length = (A 9).length; rw [k9, hL 9 (by decide)]; rfl)) (by show (l10).length = (A 10).length; rw [k10, hL 10 (by decide)]; rfl)), hR0.2.1, hR0.2.2.1, hR0.2.2.2.1, hR0.2.2.2.2.1, hR0.2.2.2.2.2.1, hR0.2.2.2.2.2.2.1, hR0.2.2.2.2.2.2.2.1, hR0.2.2.2.2.2.2.2.2.1, (REFU_c hR0.2.2.2.2.2.2.2.2.2)⟩⟩
        | 4, hio, c4 =>
          cases hio
          refine R_s (f' := (115, [some (vR 1), some (vI p), some (vI q)], [], LAY (u (u (u (shA A) 8 l8) 9 l9) 10 l10) (shF F), 0, 0)) hc64 0 rfl trivial ?_
          refine R_s (P := (0 ≤ p ∧ p < ((l8).length : Int)) ∧ True) (f' := (124, [some (vR 1), some (vI p), some (vI q)], [vI (rd l8 p)], LAY (u (u (u (shA A) 8 l8) 9 l9) 10 l10) (shF F), 0, 0)) hc64 5 rfl ⟨⟨by omega, by omega⟩, trivial⟩ ?_
          refine R_cs hc64 rfl rfl ?_ (fun r G h => h)
          refine R_s (P := True) (f' := (1, [some (vI (rd l8 p))], [vI (rd l8 p)], LAY (u (u (u (shA A) 8 l8) 9 l9) 10 l10) (shF F), 0, 0)) hc95 1 rfl trivial ?_
          refine R_if (t := 8) hc95 rfl rfl (fun (c6 : rd l8 p = 0) => ?_) (fun (c6 : ¬ (rd l8 p = 0)) => ?_)
          · refine R_s (P := True) (f' := (9, [some (vI (rd l8 p))], [vI 0], LAY (u (u (u (shA A) 8 l8) 9 l9) 10 l10) (shF F), 0, 0)) hc95 1 rfl trivial ?_
            refine R_reti hc95 rfl rfl ?_
            refine R_s (f' := (127, [some (vR 1), some (vI p), some (vI q)], [vI 0], LAY (u (u (u (shA A) 8 l8) 9 l9) 10 l10) (shF F), 0, 0)) hc64 0 rfl trivial ?_
            refine R_reti hc64 rfl rfl ⟨⟨_, rfl⟩, ⟨_, _, rfl, rfl⟩, ?_⟩
            refine R_s (P := True) (f' := (2, [some (vR 88), some (vI p), some (vI q)], [vI p, vR 88], LAY (u (u (u (shA A) 8 l8) 9 l9) 10 l10) (shF F), 0, 0)) hc118 2 rfl trivial ?_
            refine R_cv hc118 rfl rfl ?_ (fun r G h => h)
            refine R_s (P := inI ((F 3) - 1) ∧ True) (f' := (8, [some (vR 88), some (vI p)], [vI ((F 3) - 1), vI 0, vI p], LAY (u (u (u (shA A) 8 l8) 9 l9) 10 l10) (shF F), 0, 0)) hc106 6 rfl ⟨⟨by omega, by omega⟩, trivial⟩ ?_
            refine R_cs hc106 rfl rfl ?_ (fun r G h => h)
            refine R_s (P := True) (f' := (2, [some (vI p), some (vI 0), some (vI ((F 3) - 1))], [vI 0, vI p], LAY (u (u (u (shA A) 8 l8) 9 l9) 10 l10) (shF F), 0, 0)) hc104 2 rfl trivial ?_
            refine R_ic (t := 14) hc104 rfl rfl (fun (z : p < 0) => absurd z (by omega)) (fun (_ : ¬ (p < 0)) => ?_)
            refine R_s (P := True) (f' := (7, [some (vI p), some (vI 0), some (vI ((F 3) - 1))], [vI ((F 3) - 1), vI p], LAY (u (u (u (shA A) 8 l8) 9 l9) 10 l10) (shF F), 0, 0)) hc104 2 rfl trivial ?_
            refine R_ic (t := 14) hc104 rfl rfl (fun (z : (F 3) - 1 < p) => absurd z (by omega)) (fun (_ : ¬ ((F 3) - 1 < p)) => ?_)
            refine R_s (P := True) (f' := (15, [some (vI p), some (vI 0), some (vI ((F 3) - 1))], [vI 1], LAY (u (u (u (shA A) 8 l8) 9 l9) 10 l10) (shF F), 0, 0)) hc104 2 rfl trivial ?_
            refine R_retz hc104 rfl rfl (Or.inr rfl) ?_
            refine R_s (f' := (11, [some (vR 88), some (vI p)], [vI 1], LAY (u (u (u (shA A) 8 l8) 9 l9) 10 l10) (shF F), 0, 0)) hc106 0 rfl trivial ?_
            refine R_retz hc106 rfl rfl (Or.inr rfl) ?_
            refine R_s (f' := (5, [some (vR 88), some (vI p), some (vI q)], [vI 1], LAY (u (u (u (shA A) 8 l8) 9 l9) 10 l10) (shF F), 0, 0)) hc118 0 rfl trivial ?_
            refine R_if (t := 15) hc118 rfl rfl (fun (_ : ¬ 1 = 0) => ?_) (fun (z : ¬ (¬ 1 = 0)) => absurd (by decide) z)
            refine R_s (P := True) (f' := (16, [some (vR 88), some (vI p), some (vI q)], [vI q], LAY (u (u (u (shA A) 8 l8) 9 l9) 10 l10) (shF F), 0, 0)) hc118 1 rfl trivial ?_
            refine R_sw (t := 122) hc118 rfl (by decide) (fun isw o hio (c110 : q = 0 + isw) => ?_) rfl (fun (c110 : q < 0 ∨ 6 < q) => ?_)
            · match isw, hio, c110 with
              | 0, hio, c110 =>
                cases hio
                refine R_s (f' := (60, [some (vR 88), some (vI p), some (vI q)], [], LAY (u (u (u (shA A) 8 l8) 9 l9) 10 l10) (shF F), 0, 0)) hc118 0 rfl trivial ?_
                refine R_s (P := (0 ≤ p ∧ p < ((A 3).length : Int)) ∧ True) (f' := (66, [some (vR 88), some (vI p), some (vI q)], [vI (rd (A 3) p)], LAY (u (u (u (shA A) 8 l8) 9 l9) 10 l10) (shF F), 0, 0)) hc118 4 rfl ⟨⟨by omega, by omega⟩, trivial⟩ ?_
                refine R_reti hc118 rfl rfl ?_
                first
                  | (exfalso; omega; done)
                  | exact ⟨(by rw [show rd (A 3) p = 0 by omega]), (u (u (u A 8 l8) 9 l9) 10 l10), F, rfl, rfl, ⟨(LENS_u (LENS_u (LENS_u hL (by show (l8).length = (A 8).length; rw [k8, hL 8 (by decide)]; rfl)) (by show (l9).length = (A 9).length; rw [k9, hL 9 (by decide)]; rfl)) (by show (l10).length = (A 10).length; rw [k10, hL 10 (by decide)]; rfl)), hR0.2.1, hR0.2.2.1, hR0.2.2.2.1, hR0.2.2.2.2.1, hR0.2.2.2.2.2.1, hR0.2.2.2.2.2.2.1, hR0.2.2.2.2.2.2.2.1, hR0.2.2.2.2.2.2.2.2.1, (REFU_c hR0.2.2.2.2.2.2.2.2.2)⟩⟩
              | 1, hio, c110 =>
                cases hio
                refine R_s (f' := (67, [some (vR 88), some (vI p), some (vI q)], [], LAY (u (u (u (shA A) 8 l8) 9 l9) 10 l10) (shF F), 0, 0)) hc118 0 rfl trivial ?_
                refine R_s (P := (0 ≤ p ∧ p < ((A 4).length : Int)) ∧ True) (f' := (73, [some (vR 88), some (vI p), some (vI q)], [vI (rd (A 4) p)], LAY (u (u (u (shA A) 8 l8) 9 l9) 10 l10) (shF F), 0, 0)) hc118 4 rfl ⟨⟨by omega, by omega⟩, trivial⟩ ?_
                refine R_reti hc118 rfl rfl ?_
                first
                  | (exfalso; omega; done)
                  | exact ⟨(by rw [show rd (A 4) p = 0 by omega]), (u (u (u A 8 l8) 9 l9) 10 l10), F, rfl, rfl, ⟨(LENS_u (LENS_u (LENS_u hL (by show (l8).length = (A 8).length; rw [k8, hL 8 (by decide)]; rfl)) (by show (l9).length = (A 9).length; rw [k9, hL 9 (by decide)]; rfl)) (by show (l10).length = (A 10).length; rw [k10, hL 10 (by decide)]; rfl)), hR0.2.1, hR0.2.2.1, hR0.2.2.2.1, hR0.2.2.2.2.1, hR0.2.2.2.2.2.1, hR0.2.2.2.2.2.2.1, hR0.2.2.2.2.2.2.2.1, hR0.2.2.2.2.2.2.2.2.1, (REFU_c hR0.2.2.2.2.2.2.2.2.2)⟩⟩
              | 2, hio, c110 =>
                cases hio
                refine R_s (f' := (74, [some (vR 88), some (vI p), some (vI q)], [], LAY (u (u (u (shA A) 8 l8) 9 l9) 10 l10) (shF F), 0, 0)) hc118 0 rfl trivial ?_
                refine R_s (P := (0 ≤ p ∧ p < ((A 5).length : Int)) ∧ True) (f' := (80, [some (vR 88), some (vI p), some (vI q)], [vI (rd (A 5) p)], LAY (u (u (u (shA A) 8 l8) 9 l9) 10 l10) (shF F), 0, 0)) hc118 4 rfl ⟨⟨by omega, by omega⟩, trivial⟩ ?_
                refine R_reti hc118 rfl rfl ?_
                first
                  | (exfalso; omega; done)
                  | exact ⟨(by rw [show rd (A 5) p = 0 by omega]), (u (u (u A 8 l8) 9 l9) 10 l10), F, rfl, rfl, ⟨(LENS_u (LENS_u (LENS_u hL (by show (l8).length = (A 8).length; rw [k8, hL 8 (by decide)]; rfl)) (by show (l9).length = (A 9).length; rw [k9, hL 9 (by decide)]; rfl)) (by show (l10).length = (A 10).length; rw [k10, hL 10 (by decide)]; rfl)), hR0.2.1, hR0.2.2.1, hR0.2.2.2.1, hR0.2.2.2.2.1, hR0.2.2.2.2.2.1, hR0.2.2.2.2.2.2.1, hR0.2.2.2.2.2.2.2.1, hR0.2.2.2.2.2.2.2.2.1, (REFU_c hR0.2.2.2.2.2.2.2.2.2)⟩⟩
              | 3, hio, c110 =>
                cases hio
                refine R_s (f' := (81, [some (vR 88), some (vI p), some (vI q)], [], LAY (u (u (u (shA A) 8 l8) 9 l9) 10 l10) (shF F), 0, 0)) hc118 0 rfl trivial ?_
                refine R_s (P := (0 ≤ p ∧ p < ((A 6).length : Int)) ∧ True) (f' := (87, [some (vR 88), some (vI p), some (vI q)], [vI (rd (A 6) p)], LAY (u (u (u (shA A) 8 l8) 9 l9) 10 l10) (shF F), 0, 0)) hc118 4 rfl ⟨⟨by omega, by omega⟩, trivial⟩ ?_
                refine R_if (t := 94) hc118 rfl rfl (fun (c111 : rd (A 6) p = 0) => ?_) (fun (c111 : ¬ (rd (A 6) p = 0)) => ?_)
                · refine R_s (P := True) (f' := (95, [some (vR 88), some (vI p), some (vI q)], [vI 0], LAY (u (u (u (shA A) 8 l8) 9 l9) 10 l10) (shF F), 0, 0)) hc118 1 rfl trivial ?_
                  refine R_reti hc118 rfl rfl ?_
                  first
                    | (exfalso; omega; done)
                    | exact ⟨rfl, (u (u (u A 8 l8) 9 l9) 10 l10), F, rfl, rfl, ⟨(LENS_u (LENS_u (LENS_u hL (by show (l8).length = (A 8).length; rw [k8, hL 8 (by decide)]; rfl)) (by show (l9).length = (A 9).length; rw [k9, hL 9 (by decide)]; rfl)) (by show (l10).length = (A 10).length; rw [k10, hL 10 (by decide)]; rfl)), hR0.2.1, hR0.2.2.1, hR0.2.2.2.1, hR0.2.2.2.2.1, hR0.2.2.2.2.2.1, hR0.2.2.2.2.2.2.1, hR0.2.2.2.2.2.2.2.1, hR0.2.2.2.2.2.2.2.2.1, (REFU_c hR0.2.2.2.2.2.2.2.2.2)⟩⟩
                · refine R_s (P := True) (f' := (95, [some (vR 88), some (vI p), some (vI q)], [vI 1], LAY (u (u (u (shA A) 8 l8) 9 l9) 10 l10) (shF F), 0, 0)) hc118 2 rfl trivial ?_
                  refine R_reti hc118 rfl rfl ?_
                  first
                    | (exfalso; omega; done)
                    | exact ⟨(by rw [show 1 = 0 by omega]), (u (u (u A 8 l8) 9 l9) 10 l10), F, rfl, rfl, ⟨(LENS_u (LENS_u (LENS_u hL (by show (l8).length = (A 8).length; rw [k8, hL 8 (by decide)]; rfl)) (by show (l9).length = (A 9).length; rw [k9, hL 9 (by decide)]; rfl)) (by show (l10).length = (A 10).length; rw [k10, hL 10 (by decide)]; rfl)), hR0.2.1, hR0.2.2.1, hR0.2.2.2.1, hR0.2.2.2.2.1, hR0.2.2.2.2.2.1, hR0.2.2.2.2.2.2.1, hR0.2.2.2.2.2.2.2.1, hR0.2.2.2.2.2.2.2.2.1, (REFU_c hR0.2.2.2.2.2.2.2.2.2)⟩⟩
              | 4, hio, c110 =>
                cases hio
                refine R_s (f' := (96, [some (vR 88), some (vI p), some (vI q)], [], LAY (u (u (u (shA A) 8 l8) 9 l9) 10 l10) (shF F), 0, 0)) hc118 0 rfl trivial ?_
                refine R_s (P := True) (f' := (98, [some (vR 88), some (vI p), some (vI q)], [vI p, vR 88], LAY (u (u (u (shA A) 8 l8) 9 l9) 10 l10) (shF F), 0, 0)) hc118 2 rfl trivial ?_
                refine R_cv hc118 rfl rfl (l_lives (A := (u (u (u (shA A) 8 l8) 9 l9) 10 l10)) (F := (shF F)) (n := (F 3).toNat) (R_n hR0) (R_n30 hR0) (hL 4 (by decide)) (hL 5 (by decide)) (hL 6 (by decide)) (hL 94 (by decide)) (R_U (A := A) hR0) (fun p hp => (R_mT (A := A) hR0 p hp).1) (al := N_al A F) (N_al_m (A := A) hR0) (k := p.toNat) (by omega) (by omega)) (fun r G9 hp9 => ?_)
                obtain ⟨rfl, rfl⟩ := hp9
                refine R_s (f' := (101, [some (vR 88), some (vI p), some (vI q)], [vI (N_al A F p.toNat)], LAY (u (u (u (shA A) 8 l8) 9 l9) 10 l10) (shF F), 0, 0)) hc118 0 rfl trivial ?_
                refine R_if (t := 108) hc118 rfl rfl (fun (c112 : N_al A F p.toNat = 0) => ?_) (fun (c112 : ¬ (N_al A F p.toNat = 0)) => ?_)
                · refine R_s (P := True) (f' := (109, [some (vR 88), some (vI p), some (vI q)], [vI 0], LAY (u (u (u (shA A) 8 l8) 9 l9) 10 l10) (shF F), 0, 0)) hc118 1 rfl trivial ?_
                  refine R_reti hc118 rfl rfl ?_
                  first
                    | (exfalso; omega; done)
                    | exact ⟨rfl, (u (u (u A 8 l8) 9 l9) 10 l10), F, rfl, rfl, ⟨(LENS_u (LENS_u (LENS_u hL (by show (l8).length = (A 8).length; rw [k8, hL 8 (by decide)]; rfl)) (by show (l9).length = (A 9).length; rw [k9, hL 9 (by decide)]; rfl)) (by show (l10).length = (A 10).length; rw [k10, hL 10 (by decide)]; rfl)), hR0.2.1, hR0.2.2.1, hR0.2.2.2.1, hR0.2.2.2.2.1, hR0.2.2.2.2.2.1, hR0.2.2.2.2.2.2.1, hR0.2.2.2.2.2.2.2.1, hR0.2.2.2.2.2.2.2.2.1, (REFU_c hR0.2.2.2.2.2.2.2.2.2)⟩⟩
                · refine R_s (P := True) (f' := (109, [some (vR 88), some (vI p), some (vI q)], [vI 1], LAY (u (u (u (shA A) 8 l8) 9 l9) 10 l10) (shF F), 0, 0)) hc118 2 rfl trivial ?_
                  refine R_reti hc118 rfl rfl ?_
                  first
                    | (exfalso; omega; done)
                    | exact ⟨(by rw [show 1 = 0 by omega]), (u (u (u A 8 l8) 9 l9) 10 l10), F, rfl, rfl, ⟨(LENS_u (LENS_u (LENS_u hL (by show (l8).length = (A 8).length; rw [k8, hL 8 (by decide)]; rfl)) (by show (l9).length = (A 9).length; rw [k9, hL 9 (by decide)]; rfl)) (by show (l10).length = (A 10).length; rw [k10, hL 10 (by decide)]; rfl)), hR0.2.1, hR0.2.2.1, hR0.2.2.2.1, hR0.2.2.2.2.1, hR0.2.2.2.2.2.1, hR0.2.2.2.2.2.2.1, hR0.2.2.2.2.2.2.2.1, hR0.2.2.2.2.2.2.2.2.1, (REFU_c hR0.2.2.2.2.2.2.2.2.2)⟩⟩
              | 5, hio, c110 =>
                cases hio
                refine R_s (f' := (110, [some (vR 88), some (vI p), some (vI q)], [], LAY (u (u (u (shA A) 8 l8) 9 l9) 10 l10) (shF F), 0, 0)) hc118 0 rfl trivial ?_
                refine R_s (P := True) (f' := (112, [some (vR 88), some (vI p), some (vI q)], [vI p, vR 88], LAY (u (u (u (shA A) 8 l8) 9 l9) 10 l10) (shF F), 0, 0)) hc118 2 rfl trivial ?_
                refine R_cv hc118 rfl rfl (l_childrenM (A := (u (u (u (shA A) 8 l8) 9 l9) 10 l10)) (F := (shF F)) (n := (F 3).toNat) (R_n hR0) (R_n30 hR0) (hL 3 (by decide)) (q := p)) (fun r G9 hp9 => ?_)
                obtain ⟨rfl, rfl⟩ := hp9
                refine R_s (f' := (115, [some (vR 88), some (vI p), some (vI q)], [vI (sm (fun c => if rd (A 3) c = p then 1 else 0) (F 3).toNat)], LAY (u (u (u (shA A) 8 l8) 9 l9) 10 l10) (shF F), 0, 0)) hc118 0 rfl trivial ?_
                refine R_reti hc118 rfl rfl ?_
                first
                  | (exfalso; omega; done)
                  | exact ⟨(by rw [show sm (fun c => if rd (A 3) c = p then 1 else 0) (F 3).toNat = 0 by omega]), (u (u (u A 8 l8) 9 l9) 10 l10), F, rfl, rfl, ⟨(LENS_u (LENS_u (LENS_u hL (by show (l8).length = (A 8).length; rw [k8, hL 8 (by decide)]; rfl)) (by show (l9).length = (A 9).length; rw [k9, hL 9 (by decide)]; rfl)) (by show (l10).length = (A 10).length; rw [k10, hL 10 (by decide)]; rfl)), hR0.2.1, hR0.2.2.1, hR0.2.2.2.1, hR0.2.2.2.2.1, hR0.2.2.2.2.2.1, hR0.2.2.2.2.2.2.1, hR0.2.2.2.2.2.2.2.1, hR0.2.2.2.2.2.2.2.2.1, (REFU_c hR0.2.2.2.2.2.2.2.2.2)⟩⟩
              | 6, hio, c110 =>
                cases hio
                refine R_s (f' := (116, [some (vR 88), some (vI p), some (vI q)], [], LAY (u (u (u (shA A) 8 l8) 9 l9) 10 l10) (shF F), 0, 0)) hc118 0 rfl trivial ?_
                refine R_s (P := True) (f' := (118, [some (vR 88), some (vI p), some (vI q)], [vI p, vR 88], LAY (u (u (u (shA A) 8 l8) 9 l9) 10 l10) (shF F), 0, 0)) hc118 2 rfl trivial ?_
                refine R_cv hc118 rfl rfl (l_ofLine (A := (u (u (u (shA A) 8 l8) 9 l9) 10 l10)) (F := (shF F)) (n := (F 3).toNat) (R_n hR0) (R_n30 hR0) (hL 4 (by decide)) (hL 5 (by decide)) (hL 6 (by decide)) (hL 94 (by decide)) (R_U (A := A) hR0) (fun p hp => (R_mT (A := A) hR0 p hp).1) (al := N_al A F) (N_al_m (A := A) hR0) (R_TR (A := A) hR0) (hL 3 (by decide)) (ro := p.toNat) (by omega) (by omega) (hL 104 (by decide)) (hL 105 (by decide))) (fun r G9 hp9 => ?_)
                obtain ⟨e1, l104, l105, rfl, k104, k105, w0⟩ := hp9
                have e2 : r = some (vI (rd l9 p)) := by
                  rw [y8.2]
                  exact e1
                clear e1
                subst e2
                refine R_s (f' := (121, [some (vR 88), some (vI p), some (vI q)], [vI (rd l9 p)], LAY (u (u (u (u (u (shA A) 8 l8) 9 l9) 10 l10) 104 l104) 105 l105) (shF F), 0, 0)) hc118 0 rfl trivial ?_
                refine R_reti hc118 rfl rfl ?_
                first
                  | (exfalso; omega; done)
                  | exact ⟨(by rw [show rd l9 p = 0 by omega]), (u (u (u (u (u A 8 l8) 9 l9) 10 l10) 104 l104) 105 l105), F, rfl, rfl, ⟨(LENS_u (LENS_u (LENS_u (LENS_u (LENS_u hL (by show (l8).length = (A 8).length; rw [k8, hL 8 (by decide)]; rfl)) (by show (l9).length = (A 9).length; rw [k9, hL 9 (by decide)]; rfl)) (by show (l10).length = (A 10).length; rw [k10, hL 10 (by decide)]; rfl)) (by show (l104).length = (A 104).length; rw [k104, hL 104 (by decide)]; rfl)) (by show (l105).length = (A 105).length; rw [k105, hL 105 (by decide)]; rfl)), hR0.2.1, hR0.2.2.1, hR0.2.2.2.1, hR0.2.2.2.2.1, hR0.2.2.2.2.2.1, hR0.2.2.2.2.2.2.1, hR0.2.2.2.2.2.2.2.1, hR0.2.2.2.2.2.2.2.2.1, (REFU_c hR0.2.2.2.2.2.2.2.2.2)⟩⟩
              | isw + 7, hio, c110 => exact absurd hio (by simp)
            · refine R_s (P := True) (f' := (125, [some (vR 88), some (vI p), some (vI q)], [vI (-7), vR 88], LAY (u (u (u (shA A) 8 l8) 9 l9) 10 l10) (shF F), 0, 0)) hc118 2 rfl trivial ?_
              refine R_cv hc118 rfl rfl ?_ (fun r G h => h)
              refine R_s (P := inI 7 ∧ (0 ≤ 7 ∧ 7 < ((A 87).length : Int)) ∧ inI ((rd (A 87) 7) + 1) ∧ (0 ≤ 7 ∧ 7 < ((A 87).length : Int)) ∧ True) (f' := (12, [some (vR 88), some (vI (-7))], [vI (-7)], LAY (u (u (u (u (shA A) 8 l8) 9 l9) 10 l10) 89 (wr (A 87) 7 ((rd (A 87) 7) + 1))) (shF F), 0, 0)) hc105 10 rfl ⟨⟨by omega, by omega⟩, ⟨by omega, by omega⟩, ⟨by omega, by omega⟩, ⟨by omega, by omega⟩, trivial⟩ ?_
              refine R_reti hc105 rfl rfl ?_
              refine R_s (f' := (128, [some (vR 88), some (vI p), some (vI q)], [vI (-7)], LAY (u (u (u (u (shA A) 8 l8) 9 l9) 10 l10) 89 (wr (A 87) 7 ((rd (A 87) 7) + 1))) (shF F), 0, 0)) hc118 0 rfl trivial ?_
              refine R_reti hc118 rfl rfl ?_
              first
                | (exfalso; omega; done)
                | exact ⟨(by rw [show (-7) = 0 by omega]), (u (u (u A 8 l8) 9 l9) 10 l10), F, rfl, rfl, ⟨(LENS_u (LENS_u (LENS_u hL (by show (l8).length = (A 8).length; rw [k8, hL 8 (by decide)]; rfl)) (by show (l9).length = (A 9).length; rw [k9, hL 9 (by decide)]; rfl)) (by show (l10).length = (A 10).length; rw [k10, hL 10 (by decide)]; rfl)), hR0.2.1, hR0.2.2.1, hR0.2.2.2.1, hR0.2.2.2.2.1, hR0.2.2.2.2.2.1, hR0.2.2.2.2.2.2.1, hR0.2.2.2.2.2.2.2.1, hR0.2.2.2.2.2.2.2.2.1, (REFU_c hR0.2.2.2.2.2.2.2.2.2)⟩⟩
          · refine R_s (P := True) (f' := (9, [some (vI (rd l8 p))], [vI 1], LAY (u (u (u (shA A) 8 l8) 9 l9) 10 l10) (shF F), 0, 0)) hc95 2 rfl trivial ?_
            refine R_reti hc95 rfl rfl ?_
            refine R_s (f' := (127, [some (vR 1), some (vI p), some (vI q)], [vI 1], LAY (u (u (u (shA A) 8 l8) 9 l9) 10 l10) (shF F), 0, 0)) hc64 0 rfl trivial ?_
            refine R_reti hc64 rfl rfl ⟨⟨_, rfl⟩, ⟨_, _, rfl, rfl⟩, ?_⟩
            refine R_s (P := True) (f' := (2, [some (vR 88), some (vI p), some (vI q)], [vI p, vR 88], LAY (u (u (u (shA A) 8 l8) 9 l9) 10 l10) (shF F), 0, 0)) hc118 2 rfl trivial ?_
            refine R_cv hc118 rfl rfl ?_ (fun r G h => h)
            refine R_s (P := inI ((F 3) - 1) ∧ True) (f' := (8, [some (vR 88), some (vI p)], [vI ((F 3) - 1), vI 0, vI p], LAY (u (u (u (shA A) 8 l8) 9 l9) 10 l10) (shF F), 0, 0)) hc106 6 rfl ⟨⟨by omega, by omega⟩, trivial⟩ ?_
            refine R_cs hc106 rfl rfl ?_ (fun r G h => h)
            refine R_s (P := True) (f' := (2, [some (vI p), some (vI 0), some (vI ((F 3) - 1))], [vI 0, vI p], LAY (u (u (u (shA A) 8 l8) 9 l9) 10 l10) (shF F), 0, 0)) hc104 2 rfl trivial ?_
            refine R_ic (t := 14) hc104 rfl rfl (fun (z : p < 0) => absurd z (by omega)) (fun (_ : ¬ (p < 0)) => ?_)
            refine R_s (P := True) (f' := (7, [some (vI p), some (vI 0), some (vI ((F 3) - 1))], [vI ((F 3) - 1), vI p], LAY (u (u (u (shA A) 8 l8) 9 l9) 10 l10) (shF F), 0, 0)) hc104 2 rfl trivial ?_
            refine R_ic (t := 14) hc104 rfl rfl (fun (z : (F 3) - 1 < p) => absurd z (by omega)) (fun (_ : ¬ ((F 3) - 1 < p)) => ?_)
            refine R_s (P := True) (f' := (15, [some (vI p), some (vI 0), some (vI ((F 3) - 1))], [vI 1], LAY (u (u (u (shA A) 8 l8) 9 l9) 10 l10) (shF F), 0, 0)) hc104 2 rfl trivial ?_
            refine R_retz hc104 rfl rfl (Or.inr rfl) ?_
            refine R_s (f' := (11, [some (vR 88), some (vI p)], [vI 1], LAY (u (u (u (shA A) 8 l8) 9 l9) 10 l10) (shF F), 0, 0)) hc106 0 rfl trivial ?_
            refine R_retz hc106 rfl rfl (Or.inr rfl) ?_
            refine R_s (f' := (5, [some (vR 88), some (vI p), some (vI q)], [vI 1], LAY (u (u (u (shA A) 8 l8) 9 l9) 10 l10) (shF F), 0, 0)) hc118 0 rfl trivial ?_
            refine R_if (t := 15) hc118 rfl rfl (fun (_ : ¬ 1 = 0) => ?_) (fun (z : ¬ (¬ 1 = 0)) => absurd (by decide) z)
            refine R_s (P := True) (f' := (16, [some (vR 88), some (vI p), some (vI q)], [vI q], LAY (u (u (u (shA A) 8 l8) 9 l9) 10 l10) (shF F), 0, 0)) hc118 1 rfl trivial ?_
            refine R_sw (t := 122) hc118 rfl (by decide) (fun isw o hio (c110 : q = 0 + isw) => ?_) rfl (fun (c110 : q < 0 ∨ 6 < q) => ?_)
            · match isw, hio, c110 with
              | 0, hio, c110 =>
                cases hio
                refine R_s (f' := (60, [some (vR 88), some (vI p), some (vI q)], [], LAY (u (u (u (shA A) 8 l8) 9 l9) 10 l10) (shF F), 0, 0)) hc118 0 rfl trivial ?_
                refine R_s (P := (0 ≤ p ∧ p < ((A 3).length : Int)) ∧ True) (f' := (66, [some (vR 88), some (vI p), some (vI q)], [vI (rd (A 3) p)], LAY (u (u (u (shA A) 8 l8) 9 l9) 10 l10) (shF F), 0, 0)) hc118 4 rfl ⟨⟨by omega, by omega⟩, trivial⟩ ?_
                refine R_reti hc118 rfl rfl ?_
                first
                  | (exfalso; omega; done)
                  | exact ⟨(by rw [show rd (A 3) p = 1 by omega]), (u (u (u A 8 l8) 9 l9) 10 l10), F, rfl, rfl, ⟨(LENS_u (LENS_u (LENS_u hL (by show (l8).length = (A 8).length; rw [k8, hL 8 (by decide)]; rfl)) (by show (l9).length = (A 9).length; rw [k9, hL 9 (by decide)]; rfl)) (by show (l10).length = (A 10).length; rw [k10, hL 10 (by decide)]; rfl)), hR0.2.1, hR0.2.2.1, hR0.2.2.2.1, hR0.2.2.2.2.1, hR0.2.2.2.2.2.1, hR0.2.2.2.2.2.2.1, hR0.2.2.2.2.2.2.2.1, hR0.2.2.2.2.2.2.2.2.1, (REFU_c hR0.2.2.2.2.2.2.2.2.2)⟩⟩
              | 1, hio, c110 =>
                cases hio
                refine R_s (f' := (67, [some (vR 88), some (vI p), some (vI q)], [], LAY (u (u (u (shA A) 8 l8) 9 l9) 10 l10) (shF F), 0, 0)) hc118 0 rfl trivial ?_
                refine R_s (P := (0 ≤ p ∧ p < ((A 4).length : Int)) ∧ True) (f' := (73, [some (vR 88), some (vI p), some (vI q)], [vI (rd (A 4) p)], LAY (u (u (u (shA A) 8 l8) 9 l9) 10 l10) (shF F), 0, 0)) hc118 4 rfl ⟨⟨by omega, by omega⟩, trivial⟩ ?_
                refine R_reti hc118 rfl rfl ?_
                first
                  | (exfalso; omega; done)
                  | exact ⟨(by rw [show rd (A 4) p = 1 by omega]), (u (u (u A 8 l8) 9 l9) 10 l10), F, rfl, rfl, ⟨(LENS_u (LENS_u (LENS_u hL (by show (l8).length = (A 8).length; rw [k8, hL 8 (by decide)]; rfl)) (by show (l9).length = (A 9).length; rw [k9, hL 9 (by decide)]; rfl)) (by show (l10).length = (A 10).length; rw [k10, hL 10 (by decide)]; rfl)), hR0.2.1, hR0.2.2.1, hR0.2.2.2.1, hR0.2.2.2.2.1, hR0.2.2.2.2.2.1, hR0.2.2.2.2.2.2.1, hR0.2.2.2.2.2.2.2.1, hR0.2.2.2.2.2.2.2.2.1, (REFU_c hR0.2.2.2.2.2.2.2.2.2)⟩⟩
              | 2, hio, c110 =>
                cases hio
                refine R_s (f' := (74, [some (vR 88), some (vI p), some (vI q)], [], LAY (u (u (u (shA A) 8 l8) 9 l9) 10 l10) (shF F), 0, 0)) hc118 0 rfl trivial ?_
                refine R_s (P := (0 ≤ p ∧ p < ((A 5).length : Int)) ∧ True) (f' := (80, [some (vR 88), some (vI p), some (vI q)], [vI (rd (A 5) p)], LAY (u (u (u (shA A) 8 l8) 9 l9) 10 l10) (shF F), 0, 0)) hc118 4 rfl ⟨⟨by omega, by omega⟩, trivial⟩ ?_
                refine R_reti hc118 rfl rfl ?_
                first
                  | (exfalso; omega; done)
                  | exact ⟨(by rw [show rd (A 5) p = 1 by omega]), (u (u (u A 8 l8) 9 l9) 10 l10), F, rfl, rfl, ⟨(LENS_u (LENS_u (LENS_u hL (by show (l8).length = (A 8).length; rw [k8, hL 8 (by decide)]; rfl)) (by show (l9).length = (A 9).length; rw [k9, hL 9 (by decide)]; rfl)) (by show (l10).length = (A 10).length; rw [k10, hL 10 (by decide)]; rfl)), hR0.2.1, hR0.2.2.1, hR0.2.2.2.1, hR0.2.2.2.2.1, hR0.2.2.2.2.2.1, hR0.2.2.2.2.2.2.1, hR0.2.2.2.2.2.2.2.1, hR0.2.2.2.2.2.2.2.2.1, (REFU_c hR0.2.2.2.2.2.2.2.2.2)⟩⟩
              | 3, hio, c110 =>
                cases hio
                refine R_s (f' := (81, [some (vR 88), some (vI p), some (vI q)], [], LAY (u (u (u (shA A) 8 l8) 9 l9) 10 l10) (shF F), 0, 0)) hc118 0 rfl trivial ?_
                refine R_s (P := (0 ≤ p ∧ p < ((A 6).length : Int)) ∧ True) (f' := (87, [some (vR 88), some (vI p), some (vI q)], [vI (rd (A 6) p)], LAY (u (u (u (shA A) 8 l8) 9 l9) 10 l10) (shF F), 0, 0)) hc118 4 rfl ⟨⟨by omega, by omega⟩, trivial⟩ ?_
                refine R_if (t := 94) hc118 rfl rfl (fun (c111 : rd (A 6) p = 0) => ?_) (fun (c111 : ¬ (rd (A 6) p = 0)) => ?_)
                · refine R_s (P := True) (f' := (95, [some (vR 88), some (vI p), some (vI q)], [vI 0], LAY (u (u (u (shA A) 8 l8) 9 l9) 10 l10) (shF F), 0, 0)) hc118 1 rfl trivial ?_
                  refine R_reti hc118 rfl rfl ?_
                  first
                    | (exfalso; omega; done)
                    | exact ⟨(by rw [show 0 = 1 by omega]), (u (u (u A 8 l8) 9 l9) 10 l10), F, rfl, rfl, ⟨(LENS_u (LENS_u (LENS_u hL (by show (l8).length = (A 8).length; rw [k8, hL 8 (by decide)]; rfl)) (by show (l9).length = (A 9).length; rw [k9, hL 9 (by decide)]; rfl)) (by show (l10).length = (A 10).length; rw [k10, hL 10 (by decide)]; rfl)), hR0.2.1, hR0.2.2.1, hR0.2.2.2.1, hR0.2.2.2.2.1, hR0.2.2.2.2.2.1, hR0.2.2.2.2.2.2.1, hR0.2.2.2.2.2.2.2.1, hR0.2.2.2.2.2.2.2.2.1, (REFU_c hR0.2.2.2.2.2.2.2.2.2)⟩⟩
                · refine R_s (P := True) (f' := (95, [some (vR 88), some (vI p), some (vI q)], [vI 1], LAY (u (u (u (shA A) 8 l8) 9 l9) 10 l10) (shF F), 0, 0)) hc118 2 rfl trivial ?_
                  refine R_reti hc118 rfl rfl ?_
                  first
                    | (exfalso; omega; done)
                    | exact ⟨rfl, (u (u (u A 8 l8) 9 l9) 10 l10), F, rfl, rfl, ⟨(LENS_u (LENS_u (LENS_u hL (by show (l8).length = (A 8).length; rw [k8, hL 8 (by decide)]; rfl)) (by show (l9).length = (A 9).length; rw [k9, hL 9 (by decide)]; rfl)) (by show (l10).length = (A 10).length; rw [k10, hL 10 (by decide)]; rfl)), hR0.2.1, hR0.2.2.1, hR0.2.2.2.1, hR0.2.2.2.2.1, hR0.2.2.2.2.2.1, hR0.2.2.2.2.2.2.1, hR0.2.2.2.2.2.2.2.1, hR0.2.2.2.2.2.2.2.2.1, (REFU_c hR0.2.2.2.2.2.2.2.2.2)⟩⟩
              | 4, hio, c110 =>
                cases hio
                refine R_s (f' := (96, [some (vR 88), some (vI p), some (vI q)], [], LAY (u (u (u (shA A) 8 l8) 9 l9) 10 l10) (shF F), 0, 0)) hc118 0 rfl trivial ?_
                refine R_s (P := True) (f' := (98, [some (vR 88), some (vI p), some (vI q)], [vI p, vR 88], LAY (u (u (u (shA A) 8 l8) 9 l9) 10 l10) (shF F), 0, 0)) hc118 2 rfl trivial ?_
                refine R_cv hc118 rfl rfl (l_lives (A := (u (u (u (shA A) 8 l8) 9 l9) 10 l10)) (F := (shF F)) (n := (F 3).toNat) (R_n hR0) (R_n30 hR0) (hL 4 (by decide)) (hL 5 (by decide)) (hL 6 (by decide)) (hL 94 (by decide)) (R_U (A := A) hR0) (fun p hp => (R_mT (A := A) hR0 p hp).1) (al := N_al A F) (N_al_m (A := A) hR0) (k := p.toNat) (by omega) (by omega)) (fun r G9 hp9 => ?_)
                obtain ⟨rfl, rfl⟩ := hp9
                refine R_s (f' := (101, [some (vR 88), some (vI p), some (vI q)], [vI (N_al A F p.toNat)], LAY (u (u (u (shA A) 8 l8) 9 l9) 10 l10) (shF F), 0, 0)) hc118 0 rfl trivial ?_
                refine R_if (t := 108) hc118 rfl rfl (fun (c112 : N_al A F p.toNat = 0) => ?_) (fun (c112 : ¬ (N_al A F p.toNat = 0)) => ?_)
                · refine R_s (P := True) (f' := (109, [some (vR 88), some (vI p), some (vI q)], [vI 0], LAY (u (u (u (shA A) 8 l8) 9 l9) 10 l10) (shF F), 0, 0)) hc118 1 rfl trivial ?_
                  refine R_reti hc118 rfl rfl ?_
                  first
                    | (exfalso; omega; done)
                    | exact ⟨(by rw [show 0 = 1 by omega]), (u (u (u A 8 l8) 9 l9) 10 l10), F, rfl, rfl, ⟨(LENS_u (LENS_u (LENS_u hL (by show (l8).length = (A 8).length; rw [k8, hL 8 (by decide)]; rfl)) (by show (l9).length = (A 9).length; rw [k9, hL 9 (by decide)]; rfl)) (by show (l10).length = (A 10).length; rw [k10, hL 10 (by decide)]; rfl)), hR0.2.1, hR0.2.2.1, hR0.2.2.2.1, hR0.2.2.2.2.1, hR0.2.2.2.2.2.1, hR0.2.2.2.2.2.2.1, hR0.2.2.2.2.2.2.2.1, hR0.2.2.2.2.2.2.2.2.1, (REFU_c hR0.2.2.2.2.2.2.2.2.2)⟩⟩
                · refine R_s (P := True) (f' := (109, [some (vR 88), some (vI p), some (vI q)], [vI 1], LAY (u (u (u (shA A) 8 l8) 9 l9) 10 l10) (shF F), 0, 0)) hc118 2 rfl trivial ?_
                  refine R_reti hc118 rfl rfl ?_
                  first
                    | (exfalso; omega; done)
                    | exact ⟨rfl, (u (u (u A 8 l8) 9 l9) 10 l10), F, rfl, rfl, ⟨(LENS_u (LENS_u (LENS_u hL (by show (l8).length = (A 8).length; rw [k8, hL 8 (by decide)]; rfl)) (by show (l9).length = (A 9).length; rw [k9, hL 9 (by decide)]; rfl)) (by show (l10).length = (A 10).length; rw [k10, hL 10 (by decide)]; rfl)), hR0.2.1, hR0.2.2.1, hR0.2.2.2.1, hR0.2.2.2.2.1, hR0.2.2.2.2.2.1, hR0.2.2.2.2.2.2.1, hR0.2.2.2.2.2.2.2.1, hR0.2.2.2.2.2.2.2.2.1, (REFU_c hR0.2.2.2.2.2.2.2.2.2)⟩⟩
              | 5, hio, c110 =>
                cases hio
                refine R_s (f' := (110, [some (vR 88), some (vI p), some (vI q)], [], LAY (u (u (u (shA A) 8 l8) 9 l9) 10 l10) (shF F), 0, 0)) hc118 0 rfl trivial ?_
                refine R_s (P := True) (f' := (112, [some (vR 88), some (vI p), some (vI q)], [vI p, vR 88], LAY (u (u (u (shA A) 8 l8) 9 l9) 10 l10) (shF F), 0, 0)) hc118 2 rfl trivial ?_
                refine R_cv hc118 rfl rfl (l_childrenM (A := (u (u (u (shA A) 8 l8) 9 l9) 10 l10)) (F := (shF F)) (n := (F 3).toNat) (R_n hR0) (R_n30 hR0) (hL 3 (by decide)) (q := p)) (fun r G9 hp9 => ?_)
                obtain ⟨rfl, rfl⟩ := hp9
                refine R_s (f' := (115, [some (vR 88), some (vI p), some (vI q)], [vI (sm (fun c => if rd (A 3) c = p then 1 else 0) (F 3).toNat)], LAY (u (u (u (shA A) 8 l8) 9 l9) 10 l10) (shF F), 0, 0)) hc118 0 rfl trivial ?_
                refine R_reti hc118 rfl rfl ?_
                first
                  | (exfalso; omega; done)
                  | exact ⟨(by rw [show sm (fun c => if rd (A 3) c = p then 1 else 0) (F 3).toNat = 1 by omega]), (u (u (u A 8 l8) 9 l9) 10 l10), F, rfl, rfl, ⟨(LENS_u (LENS_u (LENS_u hL (by show (l8).length = (A 8).length; rw [k8, hL 8 (by decide)]; rfl)) (by show (l9).length = (A 9).length; rw [k9, hL 9 (by decide)]; rfl)) (by show (l10).length = (A 10).length; rw [k10, hL 10 (by decide)]; rfl)), hR0.2.1, hR0.2.2.1, hR0.2.2.2.1, hR0.2.2.2.2.1, hR0.2.2.2.2.2.1, hR0.2.2.2.2.2.2.1, hR0.2.2.2.2.2.2.2.1, hR0.2.2.2.2.2.2.2.2.1, (REFU_c hR0.2.2.2.2.2.2.2.2.2)⟩⟩
              | 6, hio, c110 =>
                cases hio
                refine R_s (f' := (116, [some (vR 88), some (vI p), some (vI q)], [], LAY (u (u (u (shA A) 8 l8) 9 l9) 10 l10) (shF F), 0, 0)) hc118 0 rfl trivial ?_
                refine R_s (P := True) (f' := (118, [some (vR 88), some (vI p), some (vI q)], [vI p, vR 88], LAY (u (u (u (shA A) 8 l8) 9 l9) 10 l10) (shF F), 0, 0)) hc118 2 rfl trivial ?_
                refine R_cv hc118 rfl rfl (l_ofLine (A := (u (u (u (shA A) 8 l8) 9 l9) 10 l10)) (F := (shF F)) (n := (F 3).toNat) (R_n hR0) (R_n30 hR0) (hL 4 (by decide)) (hL 5 (by decide)) (hL 6 (by decide)) (hL 94 (by decide)) (R_U (A := A) hR0) (fun p hp => (R_mT (A := A) hR0 p hp).1) (al := N_al A F) (N_al_m (A := A) hR0) (R_TR (A := A) hR0) (hL 3 (by decide)) (ro := p.toNat) (by omega) (by omega) (hL 104 (by decide)) (hL 105 (by decide))) (fun r G9 hp9 => ?_)
                obtain ⟨e1, l104, l105, rfl, k104, k105, w0⟩ := hp9
                have e2 : r = some (vI (rd l9 p)) := by
                  rw [y8.2]
                  exact e1
                clear e1
                subst e2
                refine R_s (f' := (121, [some (vR 88), some (vI p), some (vI q)], [vI (rd l9 p)], LAY (u (u (u (u (u (shA A) 8 l8) 9 l9) 10 l10) 104 l104) 105 l105) (shF F), 0, 0)) hc118 0 rfl trivial ?_
                refine R_reti hc118 rfl rfl ?_
                first
                  | (exfalso; omega; done)
                  | exact ⟨(by rw [show rd l9 p = 1 by omega]), (u (u (u (u (u A 8 l8) 9 l9) 10 l10) 104 l104) 105 l105), F, rfl, rfl, ⟨(LENS_u (LENS_u (LENS_u (LENS_u (LENS_u hL (by show (l8).length = (A 8).length; rw [k8, hL 8 (by decide)]; rfl)) (by show (l9).length = (A 9).length; rw [k9, hL 9 (by decide)]; rfl)) (by show (l10).length = (A 10).length; rw [k10, hL 10 (by decide)]; rfl)) (by show (l104).length = (A 104).length; rw [k104, hL 104 (by decide)]; rfl)) (by show (l105).length = (A 105).length; rw [k105, hL 105 (by decide)]; rfl)), hR0.2.1, hR0.2.2.1, hR0.2.2.2.1, hR0.2.2.2.2.1, hR0.2.2.2.2.2.1, hR0.2.2.2.2.2.2.1, hR0.2.2.2.2.2.2.2.1, hR0.2.2.2.2.2.2.2.2.1, (REFU_c hR0.2.2.2.2.2.2.2.2.2)⟩⟩
              | isw + 7, hio, c110 => exact absurd hio (by simp)
            · refine R_s (P := True) (f' := (125, [some (vR 88), some (vI p), some (vI q)], [vI (-7), vR 88], LAY (u (u (u (shA A) 8 l8) 9 l9) 10 l10) (shF F), 0, 0)) hc118 2 rfl trivial ?_
              refine R_cv hc118 rfl rfl ?_ (fun r G h => h)
              refine R_s (P := inI 7 ∧ (0 ≤ 7 ∧ 7 < ((A 87).length : Int)) ∧ inI ((rd (A 87) 7) + 1) ∧ (0 ≤ 7 ∧ 7 < ((A 87).length : Int)) ∧ True) (f' := (12, [some (vR 88), some (vI (-7))], [vI (-7)], LAY (u (u (u (u (shA A) 8 l8) 9 l9) 10 l10) 89 (wr (A 87) 7 ((rd (A 87) 7) + 1))) (shF F), 0, 0)) hc105 10 rfl ⟨⟨by omega, by omega⟩, ⟨by omega, by omega⟩, ⟨by omega, by omega⟩, ⟨by omega, by omega⟩, trivial⟩ ?_
              refine R_reti hc105 rfl rfl ?_
              refine R_s (f' := (128, [some (vR 88), some (vI p), some (vI q)], [vI (-7)], LAY (u (u (u (u (shA A) 8 l8) 9 l9) 10 l10) 89 (wr (A 87) 7 ((rd (A 87) 7) + 1))) (shF F), 0, 0)) hc118 0 rfl trivial ?_
              refine R_reti hc118 rfl rfl ?_
              first
                | (exfalso; omega; done)
                | exact ⟨(by rw [show (-7) = 1 by omega]), (u (u (u A 8 l8) 9 l9) 10 l10), F, rfl, rfl, ⟨(LENS_u (LENS_u (LENS_u hL (by show (l8).length = (A 8).length; rw [k8, hL 8 (by decide)]; rfl)) (by show (l9).length = (A 9).length; rw [k9, hL 9 (by decide)]; rfl)) (by show (l10).length = (A 10).length; rw [k10, hL 10 (by decide)]; rfl)), hR0.2.1, hR0.2.2.1, hR0.2.2.2.1, hR0.2.2.2.2.1, hR0.2.2.2.2.2.1, hR0.2.2.2.2.2.2.1, hR0.2.2.2.2.2.2.2.1, hR0.2.2.2.2.2.2.2.2.1, (REFU_c hR0.2.2.2.2.2.2.2.2.2)⟩⟩
        | 5, hio, c4 =>
          cases hio
          refine R_s (f' := (128, [some (vR 1), some (vI p), some (vI q)], [], LAY (u (u (u (shA A) 8 l8) 9 l9) 10 l10) (shF F), 0, 0)) hc64 0 rfl trivial ?_
          refine R_s (P := True) (f' := (133, [some (vR 1), some (vI p), some (vI q)], [vI p, vR 2], LAY (u (u (u (shA A) 8 l8) 9 l9) 10 l10) (shF F), 0, 0)) hc64 3 rfl trivial ?_
          refine R_cv hc64 rfl rfl (l_children (A := (u (u (u (shA A) 8 l8) 9 l9) 10 l10)) (F := (shF F)) (n := (F 3).toNat) (LENS_u (LENS_u (LENS_u (LENS_sh hL) (by show (l8).length = (A 8).length; rw [k8, hL 8 (by decide)]; rfl)) (by show (l9).length = (A 9).length; rw [k9, hL 9 (by decide)]; rfl)) (by show (l10).length = (A 10).length; rw [k10, hL 10 (by decide)]; rfl)) (R_n hR0) (R_n30 hR0) (R_TR (A := A) hR0) (q := p) (qn := p.toNat) (by omega) (by omega)) (fun r G9 hp9 => ?_)
          obtain ⟨rfl, rfl⟩ := hp9
          refine R_s (f' := (136, [some (vR 1), some (vI p), some (vI q)], [vI (sm (fun c => if rd (A 3) c = p then 1 else 0) (F 3).toNat)], LAY (u (u (u (shA A) 8 l8) 9 l9) 10 l10) (shF F), 0, 0)) hc64 0 rfl trivial ?_
          refine R_reti hc64 rfl rfl ⟨⟨_, rfl⟩, ⟨_, _, rfl, rfl⟩, ?_⟩
          refine R_s (P := True) (f' := (2, [some (vR 88), some (vI p), some (vI q)], [vI p, vR 88], LAY (u (u (u (shA A) 8 l8) 9 l9) 10 l10) (shF F), 0, 0)) hc118 2 rfl trivial ?_
          refine R_cv hc118 rfl rfl ?_ (fun r G h => h)
          refine R_s (P := inI ((F 3) - 1) ∧ True) (f' := (8, [some (vR 88), some (vI p)], [vI ((F 3) - 1), vI 0, vI p], LAY (u (u (u (shA A) 8 l8) 9 l9) 10 l10) (shF F), 0, 0)) hc106 6 rfl ⟨⟨by omega, by omega⟩, trivial⟩ ?_
          refine R_cs hc106 rfl rfl ?_ (fun r G h => h)
          refine R_s (P := True) (f' := (2, [some (vI p), some (vI 0), some (vI ((F 3) - 1))], [vI 0, vI p], LAY (u (u (u (shA A) 8 l8) 9 l9) 10 l10) (shF F), 0, 0)) hc104 2 rfl trivial ?_
          refine R_ic (t := 14) hc104 rfl rfl (fun (z : p < 0) => absurd z (by omega)) (fun (_ : ¬ (p < 0)) => ?_)
          refine R_s (P := True) (f' := (7, [some (vI p), some (vI 0), some (vI ((F 3) - 1))], [vI ((F 3) - 1), vI p], LAY (u (u (u (shA A) 8 l8) 9 l9) 10 l10) (shF F), 0, 0)) hc104 2 rfl trivial ?_
          refine R_ic (t := 14) hc104 rfl rfl (fun (z : (F 3) - 1 < p) => absurd z (by omega)) (fun (_ : ¬ ((F 3) - 1 < p)) => ?_)
          refine R_s (P := True) (f' := (15, [some (vI p), some (vI 0), some (vI ((F 3) - 1))], [vI 1], LAY (u (u (u (shA A) 8 l8) 9 l9) 10 l10) (shF F), 0, 0)) hc104 2 rfl trivial ?_
          refine R_retz hc104 rfl rfl (Or.inr rfl) ?_
          refine R_s (f' := (11, [some (vR 88), some (vI p)], [vI 1], LAY (u (u (u (shA A) 8 l8) 9 l9) 10 l10) (shF F), 0, 0)) hc106 0 rfl trivial ?_
          refine R_retz hc106 rfl rfl (Or.inr rfl) ?_
          refine R_s (f' := (5, [some (vR 88), some (vI p), some (vI q)], [vI 1], LAY (u (u (u (shA A) 8 l8) 9 l9) 10 l10) (shF F), 0, 0)) hc118 0 rfl trivial ?_
          refine R_if (t := 15) hc118 rfl rfl (fun (_ : ¬ 1 = 0) => ?_) (fun (z : ¬ (¬ 1 = 0)) => absurd (by decide) z)
          refine R_s (P := True) (f' := (16, [some (vR 88), some (vI p), some (vI q)], [vI q], LAY (u (u (u (shA A) 8 l8) 9 l9) 10 l10) (shF F), 0, 0)) hc118 1 rfl trivial ?_
          refine R_sw (t := 122) hc118 rfl (by decide) (fun isw o hio (c110 : q = 0 + isw) => ?_) rfl (fun (c110 : q < 0 ∨ 6 < q) => ?_)
          · match isw, hio, c110 with
            | 0, hio, c110 =>
              cases hio
              refine R_s (f' := (60, [some (vR 88), some (vI p), some (vI q)], [], LAY (u (u (u (shA A) 8 l8) 9 l9) 10 l10) (shF F), 0, 0)) hc118 0 rfl trivial ?_
              refine R_s (P := (0 ≤ p ∧ p < ((A 3).length : Int)) ∧ True) (f' := (66, [some (vR 88), some (vI p), some (vI q)], [vI (rd (A 3) p)], LAY (u (u (u (shA A) 8 l8) 9 l9) 10 l10) (shF F), 0, 0)) hc118 4 rfl ⟨⟨by omega, by omega⟩, trivial⟩ ?_
              refine R_reti hc118 rfl rfl ?_
              first
                | (exfalso; omega; done)
                | exact ⟨(by rw [show rd (A 3) p = sm (fun c => if rd (A 3) c = p then 1 else 0) (F 3).toNat by omega]), (u (u (u A 8 l8) 9 l9) 10 l10), F, rfl, rfl, ⟨(LENS_u (LENS_u (LENS_u hL (by show (l8).length = (A 8).length; rw [k8, hL 8 (by decide)]; rfl)) (by show (l9).length = (A 9).length; rw [k9, hL 9 (by decide)]; rfl)) (by show (l10).length = (A 10).length; rw [k10, hL 10 (by decide)]; rfl)), hR0.2.1, hR0.2.2.1, hR0.2.2.2.1, hR0.2.2.2.2.1, hR0.2.2.2.2.2.1, hR0.2.2.2.2.2.2.1, hR0.2.2.2.2.2.2.2.1, hR0.2.2.2.2.2.2.2.2.1, (REFU_c hR0.2.2.2.2.2.2.2.2.2)⟩⟩
            | 1, hio, c110 =>
              cases hio
              refine R_s (f' := (67, [some (vR 88), some (vI p), some (vI q)], [], LAY (u (u (u (shA A) 8 l8) 9 l9) 10 l10) (shF F), 0, 0)) hc118 0 rfl trivial ?_
              refine R_s (P := (0 ≤ p ∧ p < ((A 4).length : Int)) ∧ True) (f' := (73, [some (vR 88), some (vI p), some (vI q)], [vI (rd (A 4) p)], LAY (u (u (u (shA A) 8 l8) 9 l9) 10 l10) (shF F), 0, 0)) hc118 4 rfl ⟨⟨by omega, by omega⟩, trivial⟩ ?_
              refine R_reti hc118 rfl rfl ?_
              first
                | (exfalso; omega; done)
                | exact ⟨(by rw [show rd (A 4) p = sm (fun c => if rd (A 3) c = p then 1 else 0) (F 3).toNat by omega]), (u (u (u A 8 l8) 9 l9) 10 l10), F, rfl, rfl, ⟨(LENS_u (LENS_u (LENS_u hL (by show (l8).length = (A 8).length; rw [k8, hL 8 (by decide)]; rfl)) (by show (l9).length = (A 9).length; rw [k9, hL 9 (by decide)]; rfl)) (by show (l10).length = (A 10).length; rw [k10, hL 10 (by decide)]; rfl)), hR0.2.1, hR0.2.2.1, hR0.2.2.2.1, hR0.2.2.2.2.1, hR0.2.2.2.2.2.1, hR0.2.2.2.2.2.2.1, hR0.2.2.2.2.2.2.2.1, hR0.2.2.2.2.2.2.2.2.1, (REFU_c hR0.2.2.2.2.2.2.2.2.2)⟩⟩
            | 2, hio, c110 =>
              cases hio
              refine R_s (f' := (74, [some (vR 88), some (vI p), some (vI q)], [], LAY (u (u (u (shA A) 8 l8) 9 l9) 10 l10) (shF F), 0, 0)) hc118 0 rfl trivial ?_
              refine R_s (P := (0 ≤ p ∧ p < ((A 5).length : Int)) ∧ True) (f' := (80, [some (vR 88), some (vI p), some (vI q)], [vI (rd (A 5) p)], LAY (u (u (u (shA A) 8 l8) 9 l9) 10 l10) (shF F), 0, 0)) hc118 4 rfl ⟨⟨by omega, by omega⟩, trivial⟩ ?_
              refine R_reti hc118 rfl rfl ?_
              first
                | (exfalso; omega; done)
                | exact ⟨(by rw [show rd (A 5) p = sm (fun c => if rd (A 3) c = p then 1 else 0) (F 3).toNat by omega]), (u (u (u A 8 l8) 9 l9) 10 l10), F, rfl, rfl, ⟨(LENS_u (LENS_u (LENS_u hL (by show (l8).length = (A 8).length; rw [k8, hL 8 (by decide)]; rfl)) (by show (l9).length = (A 9).length; rw [k9, hL 9 (by decide)]; rfl)) (by show (l10).length = (A 10).length; rw [k10, hL 10 (by decide)]; rfl)), hR0.2.1, hR0.2.2.1, hR0.2.2.2.1, hR0.2.2.2.2.1, hR0.2.2.2.2.2.1, hR0.2.2.2.2.2.2.1, hR0.2.2.2.2.2.2.2.1, hR0.2.2.2.2.2.2.2.2.1, (REFU_c hR0.2.2.2.2.2.2.2.2.2)⟩⟩
            | 3, hio, c110 =>
              cases hio
              refine R_s (f' := (81, [some (vR 88), some (vI p), some (vI q)], [], LAY (u (u (u (shA A) 8 l8) 9 l9) 10 l10) (shF F), 0, 0)) hc118 0 rfl trivial ?_
              refine R_s (P := (0 ≤ p ∧ p < ((A 6).length : Int)) ∧ True) (f' := (87, [some (vR 88), some (vI p), some (vI q)], [vI (rd (A 6) p)], LAY (u (u (u (shA A) 8 l8) 9 l9) 10 l10) (shF F), 0, 0)) hc118 4 rfl ⟨⟨by omega, by omega⟩, trivial⟩ ?_
              refine R_if (t := 94) hc118 rfl rfl (fun (c111 : rd (A 6) p = 0) => ?_) (fun (c111 : ¬ (rd (A 6) p = 0)) => ?_)
              · refine R_s (P := True) (f' := (95, [some (vR 88), some (vI p), some (vI q)], [vI 0], LAY (u (u (u (shA A) 8 l8) 9 l9) 10 l10) (shF F), 0, 0)) hc118 1 rfl trivial ?_
                refine R_reti hc118 rfl rfl ?_
                first
                  | (exfalso; omega; done)
                  | exact ⟨(by rw [show 0 = sm (fun c => if rd (A 3) c = p then 1 else 0) (F 3).toNat by omega]), (u (u (u A 8 l8) 9 l9) 10 l10), F, rfl, rfl, ⟨(LENS_u (LENS_u (LENS_u hL (by show (l8).length = (A 8).length; rw [k8, hL 8 (by decide)]; rfl)) (by show (l9).length = (A 9).length; rw [k9, hL 9 (by decide)]; rfl)) (by show (l10).length = (A 10).length; rw [k10, hL 10 (by decide)]; rfl)), hR0.2.1, hR0.2.2.1, hR0.2.2.2.1, hR0.2.2.2.2.1, hR0.2.2.2.2.2.1, hR0.2.2.2.2.2.2.1, hR0.2.2.2.2.2.2.2.1, hR0.2.2.2.2.2.2.2.2.1, (REFU_c hR0.2.2.2.2.2.2.2.2.2)⟩⟩
              · refine R_s (P := True) (f' := (95, [some (vR 88), some (vI p), some (vI q)], [vI 1], LAY (u (u (u (shA A) 8 l8) 9 l9) 10 l10) (shF F), 0, 0)) hc118 2 rfl trivial ?_
                refine R_reti hc118 rfl rfl ?_
                first
                  | (exfalso; omega; done)
                  | exact ⟨(by rw [show 1 = sm (fun c => if rd (A 3) c = p then 1 else 0) (F 3).toNat by omega]), (u (u (u A 8 l8) 9 l9) 10 l10), F, rfl, rfl, ⟨(LENS_u (LENS_u (LENS_u hL (by show (l8).length = (A 8).length; rw [k8, hL 8 (by decide)]; rfl)) (by show (l9).length = (A 9).length; rw [k9, hL 9 (by decide)]; rfl)) (by show (l10).length = (A 10).length; rw [k10, hL 10 (by decide)]; rfl)), hR0.2.1, hR0.2.2.1, hR0.2.2.2.1, hR0.2.2.2.2.1, hR0.2.2.2.2.2.1, hR0.2.2.2.2.2.2.1, hR0.2.2.2.2.2.2.2.1, hR0.2.2.2.2.2.2.2.2.1, (REFU_c hR0.2.2.2.2.2.2.2.2.2)⟩⟩
            | 4, hio, c110 =>
              cases hio
              refine R_s (f' := (96, [some (vR 88), some (vI p), some (vI q)], [], LAY (u (u (u (shA A) 8 l8) 9 l9) 10 l10) (shF F), 0, 0)) hc118 0 rfl trivial ?_
              refine R_s (P := True) (f' := (98, [some (vR 88), some (vI p), some (vI q)], [vI p, vR 88], LAY (u (u (u (shA A) 8 l8) 9 l9) 10 l10) (shF F), 0, 0)) hc118 2 rfl trivial ?_
              refine R_cv hc118 rfl rfl (l_lives (A := (u (u (u (shA A) 8 l8) 9 l9) 10 l10)) (F := (shF F)) (n := (F 3).toNat) (R_n hR0) (R_n30 hR0) (hL 4 (by decide)) (hL 5 (by decide)) (hL 6 (by decide)) (hL 94 (by decide)) (R_U (A := A) hR0) (fun p hp => (R_mT (A := A) hR0 p hp).1) (al := N_al A F) (N_al_m (A := A) hR0) (k := p.toNat) (by omega) (by omega)) (fun r G9 hp9 => ?_)
              obtain ⟨rfl, rfl⟩ := hp9
              refine R_s (f' := (101, [some (vR 88), some (vI p), some (vI q)], [vI (N_al A F p.toNat)], LAY (u (u (u (shA A) 8 l8) 9 l9) 10 l10) (shF F), 0, 0)) hc118 0 rfl trivial ?_
              refine R_if (t := 108) hc118 rfl rfl (fun (c112 : N_al A F p.toNat = 0) => ?_) (fun (c112 : ¬ (N_al A F p.toNat = 0)) => ?_)
              · refine R_s (P := True) (f' := (109, [some (vR 88), some (vI p), some (vI q)], [vI 0], LAY (u (u (u (shA A) 8 l8) 9 l9) 10 l10) (shF F), 0, 0)) hc118 1 rfl trivial ?_
                refine R_reti hc118 rfl rfl ?_
                first
                  | (exfalso; omega; done)
                  | exact ⟨(by rw [show 0 = sm (fun c => if rd (A 3) c = p then 1 else 0) (F 3).toNat by omega]), (u (u (u A 8 l8) 9 l9) 10 l10), F, rfl, rfl, ⟨(LENS_u (LENS_u (LENS_u hL (by show (l8).length = (A 8).length; rw [k8, hL 8 (by decide)]; rfl)) (by show (l9).length = (A 9).length; rw [k9, hL 9 (by decide)]; rfl)) (by show (l10).length = (A 10).length; rw [k10, hL 10 (by decide)]; rfl)), hR0.2.1, hR0.2.2.1, hR0.2.2.2.1, hR0.2.2.2.2.1, hR0.2.2.2.2.2.1, hR0.2.2.2.2.2.2.1, hR0.2.2.2.2.2.2.2.1, hR0.2.2.2.2.2.2.2.2.1, (REFU_c hR0.2.2.2.2.2.2.2.2.2)⟩⟩
              · refine R_s (P := True) (f' := (109, [some (vR 88), some (vI p), some (vI q)], [vI 1], LAY (u (u (u (shA A) 8 l8) 9 l9) 10 l10) (shF F), 0, 0)) hc118 2 rfl trivial ?_
                refine R_reti hc118 rfl rfl ?_
                first
                  | (exfalso; omega; done)
                  | exact ⟨(by rw [show 1 = sm (fun c => if rd (A 3) c = p then 1 else 0) (F 3).toNat by omega]), (u (u (u A 8 l8) 9 l9) 10 l10), F, rfl, rfl, ⟨(LENS_u (LENS_u (LENS_u hL (by show (l8).length = (A 8).length; rw [k8, hL 8 (by decide)]; rfl)) (by show (l9).length = (A 9).length; rw [k9, hL 9 (by decide)]; rfl)) (by show (l10).length = (A 10).length; rw [k10, hL 10 (by decide)]; rfl)), hR0.2.1, hR0.2.2.1, hR0.2.2.2.1, hR0.2.2.2.2.1, hR0.2.2.2.2.2.1, hR0.2.2.2.2.2.2.1, hR0.2.2.2.2.2.2.2.1, hR0.2.2.2.2.2.2.2.2.1, (REFU_c hR0.2.2.2.2.2.2.2.2.2)⟩⟩
            | 5, hio, c110 =>
              cases hio
              refine R_s (f' := (110, [some (vR 88), some (vI p), some (vI q)], [], LAY (u (u (u (shA A) 8 l8) 9 l9) 10 l10) (shF F), 0, 0)) hc118 0 rfl trivial ?_
              refine R_s (P := True) (f' := (112, [some (vR 88), some (vI p), some (vI q)], [vI p, vR 88], LAY (u (u (u (shA A) 8 l8) 9 l9) 10 l10) (shF F), 0, 0)) hc118 2 rfl trivial ?_
              refine R_cv hc118 rfl rfl (l_childrenM (A := (u (u (u (shA A) 8 l8) 9 l9) 10 l10)) (F := (shF F)) (n := (F 3).toNat) (R_n hR0) (R_n30 hR0) (hL 3 (by decide)) (q := p)) (fun r G9 hp9 => ?_)
              obtain ⟨rfl, rfl⟩ := hp9
              refine R_s (f' := (115, [some (vR 88), some (vI p), some (vI q)], [vI (sm (fun c => if rd (A 3) c = p then 1 else 0) (F 3).toNat)], LAY (u (u (u (shA A) 8 l8) 9 l9) 10 l10) (shF F), 0, 0)) hc118 0 rfl trivial ?_
              refine R_reti hc118 rfl rfl ?_
              first
                | (exfalso; omega; done)
                | exact ⟨rfl, (u (u (u A 8 l8) 9 l9) 10 l10), F, rfl, rfl, ⟨(LENS_u (LENS_u (LENS_u hL (by show (l8).length = (A 8).length; rw [k8, hL 8 (by decide)]; rfl)) (by show (l9).length = (A 9).length; rw [k9, hL 9 (by decide)]; rfl)) (by show (l10).length = (A 10).length; rw [k10, hL 10 (by decide)]; rfl)), hR0.2.1, hR0.2.2.1, hR0.2.2.2.1, hR0.2.2.2.2.1, hR0.2.2.2.2.2.1, hR0.2.2.2.2.2.2.1, hR0.2.2.2.2.2.2.2.1, hR0.2.2.2.2.2.2.2.2.1, (REFU_c hR0.2.2.2.2.2.2.2.2.2)⟩⟩
            | 6, hio, c110 =>
              cases hio
              refine R_s (f' := (116, [some (vR 88), some (vI p), some (vI q)], [], LAY (u (u (u (shA A) 8 l8) 9 l9) 10 l10) (shF F), 0, 0)) hc118 0 rfl trivial ?_
              refine R_s (P := True) (f' := (118, [some (vR 88), some (vI p), some (vI q)], [vI p, vR 88], LAY (u (u (u (shA A) 8 l8) 9 l9) 10 l10) (shF F), 0, 0)) hc118 2 rfl trivial ?_
              refine R_cv hc118 rfl rfl (l_ofLine (A := (u (u (u (shA A) 8 l8) 9 l9) 10 l10)) (F := (shF F)) (n := (F 3).toNat) (R_n hR0) (R_n30 hR0) (hL 4 (by decide)) (hL 5 (by decide)) (hL 6 (by decide)) (hL 94 (by decide)) (R_U (A := A) hR0) (fun p hp => (R_mT (A := A) hR0 p hp).1) (al := N_al A F) (N_al_m (A := A) hR0) (R_TR (A := A) hR0) (hL 3 (by decide)) (ro := p.toNat) (by omega) (by omega) (hL 104 (by decide)) (hL 105 (by decide))) (fun r G9 hp9 => ?_)
              obtain ⟨e1, l104, l105, rfl, k104, k105, w0⟩ := hp9
              have e2 : r = some (vI (rd l9 p)) := by
                rw [y8.2]
                exact e1
              clear e1
              subst e2
              refine R_s (f' := (121, [some (vR 88), some (vI p), some (vI q)], [vI (rd l9 p)], LAY (u (u (u (u (u (shA A) 8 l8) 9 l9) 10 l10) 104 l104) 105 l105) (shF F), 0, 0)) hc118 0 rfl trivial ?_
              refine R_reti hc118 rfl rfl ?_
              first
                | (exfalso; omega; done)
                | exact ⟨(by rw [show rd l9 p = sm (fun c => if rd (A 3) c = p then 1 else 0) (F 3).toNat by omega]), (u (u (u (u (u A 8 l8) 9 l9) 10 l10) 104 l104) 105 l105), F, rfl, rfl, ⟨(LENS_u (LENS_u (LENS_u (LENS_u (LENS_u hL (by show (l8).length = (A 8).length; rw [k8, hL 8 (by decide)]; rfl)) (by show (l9).length = (A 9).length; rw [k9, hL 9 (by decide)]; rfl)) (by show (l10).length = (A 10).length; rw [k10, hL 10 (by decide)]; rfl)) (by show (l104).length = (A 104).length; rw [k104, hL 104 (by decide)]; rfl)) (by show (l105).length = (A 105).length; rw [k105, hL 105 (by decide)]; rfl)), hR0.2.1, hR0.2.2.1, hR0.2.2.2.1, hR0.2.2.2.2.1, hR0.2.2.2.2.2.1, hR0.2.2.2.2.2.2.1, hR0.2.2.2.2.2.2.2.1, hR0.2.2.2.2.2.2.2.2.1, (REFU_c hR0.2.2.2.2.2.2.2.2.2)⟩⟩
            | isw + 7, hio, c110 => exact absurd hio (by simp)
          · refine R_s (P := True) (f' := (125, [some (vR 88), some (vI p), some (vI q)], [vI (-7), vR 88], LAY (u (u (u (shA A) 8 l8) 9 l9) 10 l10) (shF F), 0, 0)) hc118 2 rfl trivial ?_
            refine R_cv hc118 rfl rfl ?_ (fun r G h => h)
            refine R_s (P := inI 7 ∧ (0 ≤ 7 ∧ 7 < ((A 87).length : Int)) ∧ inI ((rd (A 87) 7) + 1) ∧ (0 ≤ 7 ∧ 7 < ((A 87).length : Int)) ∧ True) (f' := (12, [some (vR 88), some (vI (-7))], [vI (-7)], LAY (u (u (u (u (shA A) 8 l8) 9 l9) 10 l10) 89 (wr (A 87) 7 ((rd (A 87) 7) + 1))) (shF F), 0, 0)) hc105 10 rfl ⟨⟨by omega, by omega⟩, ⟨by omega, by omega⟩, ⟨by omega, by omega⟩, ⟨by omega, by omega⟩, trivial⟩ ?_
            refine R_reti hc105 rfl rfl ?_
            refine R_s (f' := (128, [some (vR 88), some (vI p), some (vI q)], [vI (-7)], LAY (u (u (u (u (shA A) 8 l8) 9 l9) 10 l10) 89 (wr (A 87) 7 ((rd (A 87) 7) + 1))) (shF F), 0, 0)) hc118 0 rfl trivial ?_
            refine R_reti hc118 rfl rfl ?_
            first
              | (exfalso; omega; done)
              | exact ⟨(by rw [show (-7) = sm (fun c => if rd (A 3) c = p then 1 else 0) (F 3).toNat by omega]), (u (u (u A 8 l8) 9 l9) 10 l10), F, rfl, rfl, ⟨(LENS_u (LENS_u (LENS_u hL (by show (l8).length = (A 8).length; rw [k8, hL 8 (by decide)]; rfl)) (by show (l9).length = (A 9).length; rw [k9, hL 9 (by decide)]; rfl)) (by show (l10).length = (A 10).length; rw [k10, hL 10 (by decide)]; rfl)), hR0.2.1, hR0.2.2.1, hR0.2.2.2.1, hR0.2.2.2.2.1, hR0.2.2.2.2.2.1, hR0.2.2.2.2.2.2.1, hR0.2.2.2.2.2.2.2.1, hR0.2.2.2.2.2.2.2.2.1, (REFU_c hR0.2.2.2.2.2.2.2.2.2)⟩⟩
        | 6, hio, c4 =>
          cases hio
          refine R_s (f' := (137, [some (vR 1), some (vI p), some (vI q)], [], LAY (u (u (u (shA A) 8 l8) 9 l9) 10 l10) (shF F), 0, 0)) hc64 0 rfl trivial ?_
          refine R_s (P := (0 ≤ p ∧ p < ((l9).length : Int)) ∧ True) (f' := (146, [some (vR 1), some (vI p), some (vI q)], [vI (rd l9 p)], LAY (u (u (u (shA A) 8 l8) 9 l9) 10 l10) (shF F), 0, 0)) hc64 5 rfl ⟨⟨by omega, by omega⟩, trivial⟩ ?_
          refine R_reti hc64 rfl rfl ⟨⟨_, rfl⟩, ⟨_, _, rfl, rfl⟩, ?_⟩
          refine R_s (P := True) (f' := (2, [some (vR 88), some (vI p), some (vI q)], [vI p, vR 88], LAY (u (u (u (shA A) 8 l8) 9 l9) 10 l10) (shF F), 0, 0)) hc118 2 rfl trivial ?_
          refine R_cv hc118 rfl rfl ?_ (fun r G h => h)
          refine R_s (P := inI ((F 3) - 1) ∧ True) (f' := (8, [some (vR 88), some (vI p)], [vI ((F 3) - 1), vI 0, vI p], LAY (u (u (u (shA A) 8 l8) 9 l9) 10 l10) (shF F), 0, 0)) hc106 6 rfl ⟨⟨by omega, by omega⟩, trivial⟩ ?_
          refine R_cs hc106 rfl rfl ?_ (fun r G h => h)
          refine R_s (P := True) (f' := (2, [some (vI p), some (vI 0), some (vI ((F 3) - 1))], [vI 0, vI p], LAY (u (u (u (shA A) 8 l8) 9 l9) 10 l10) (shF F), 0, 0)) hc104 2 rfl trivial ?_
          refine R_ic (t := 14) hc104 rfl rfl (fun (z : p < 0) => absurd z (by omega)) (fun (_ : ¬ (p < 0)) => ?_)
          refine R_s (P := True) (f' := (7, [some (vI p), some (vI 0), some (vI ((F 3) - 1))], [vI ((F 3) - 1), vI p], LAY (u (u (u (shA A) 8 l8) 9 l9) 10 l10) (shF F), 0, 0)) hc104 2 rfl trivial ?_
          refine R_ic (t := 14) hc104 rfl rfl (fun (z : (F 3) - 1 < p) => absurd z (by omega)) (fun (_ : ¬ ((F 3) - 1 < p)) => ?_)
          refine R_s (P := True) (f' := (15, [some (vI p), some (vI 0), some (vI ((F 3) - 1))], [vI 1], LAY (u (u (u (shA A) 8 l8) 9 l9) 10 l10) (shF F), 0, 0)) hc104 2 rfl trivial ?_
          refine R_retz hc104 rfl rfl (Or.inr rfl) ?_
          refine R_s (f' := (11, [some (vR 88), some (vI p)], [vI 1], LAY (u (u (u (shA A) 8 l8) 9 l9) 10 l10) (shF F), 0, 0)) hc106 0 rfl trivial ?_
          refine R_retz hc106 rfl rfl (Or.inr rfl) ?_
          refine R_s (f' := (5, [some (vR 88), some (vI p), some (vI q)], [vI 1], LAY (u (u (u (shA A) 8 l8) 9 l9) 10 l10) (shF F), 0, 0)) hc118 0 rfl trivial ?_
          refine R_if (t := 15) hc118 rfl rfl (fun (_ : ¬ 1 = 0) => ?_) (fun (z : ¬ (¬ 1 = 0)) => absurd (by decide) z)
          refine R_s (P := True) (f' := (16, [some (vR 88), some (vI p), some (vI q)], [vI q], LAY (u (u (u (shA A) 8 l8) 9 l9) 10 l10) (shF F), 0, 0)) hc118 1 rfl trivial ?_
          refine R_sw (t := 122) hc118 rfl (by decide) (fun isw o hio (c110 : q = 0 + isw) => ?_) rfl (fun (c110 : q < 0 ∨ 6 < q) => ?_)
          · match isw, hio, c110 with
            | 0, hio, c110 =>
              cases hio
              refine R_s (f' := (60, [some (vR 88), some (vI p), some (vI q)], [], LAY (u (u (u (shA A) 8 l8) 9 l9) 10 l10) (shF F), 0, 0)) hc118 0 rfl trivial ?_
              refine R_s (P := (0 ≤ p ∧ p < ((A 3).length : Int)) ∧ True) (f' := (66, [some (vR 88), some (vI p), some (vI q)], [vI (rd (A 3) p)], LAY (u (u (u (shA A) 8 l8) 9 l9) 10 l10) (shF F), 0, 0)) hc118 4 rfl ⟨⟨by omega, by omega⟩, trivial⟩ ?_
              refine R_reti hc118 rfl rfl ?_
              first
                | (exfalso; omega; done)
                | exact ⟨(by rw [show rd (A 3) p = rd l9 p by omega]), (u (u (u A 8 l8) 9 l9) 10 l10), F, rfl, rfl, ⟨(LENS_u (LENS_u (LENS_u hL (by show (l8).length = (A 8).length; rw [k8, hL 8 (by decide)]; rfl)) (by show (l9).length = (A 9).length; rw [k9, hL 9 (by decide)]; rfl)) (by show (l10).length = (A 10).length; rw [k10, hL 10 (by decide)]; rfl)), hR0.2.1, hR0.2.2.1, hR0.2.2.2.1, hR0.2.2.2.2.1, hR0.2.2.2.2.2.1, hR0.2.2.2.2.2.2.1, hR0.2.2.2.2.2.2.2.1, hR0.2.2.2.2.2.2.2.2.1, (REFU_c hR0.2.2.2.2.2.2.2.2.2)⟩⟩
            | 1, hio, c110 =>
              cases hio
              refine R_s (f' := (67, [some (vR 88), some (vI p), some (vI q)], [], LAY (u (u (u (shA A) 8 l8) 9 l9) 10 l10) (shF F), 0, 0)) hc118 0 rfl trivial ?_
              refine R_s (P := (0 ≤ p ∧ p < ((A 4).length : Int)) ∧ True) (f' := (73, [some (vR 88), some (vI p), some (vI q)], [vI (rd (A 4) p)], LAY (u (u (u (shA A) 8 l8) 9 l9) 10 l10) (shF F), 0, 0)) hc118 4 rfl ⟨⟨by omega, by omega⟩, trivial⟩ ?_
              refine R_reti hc118 rfl rfl ?_
              first
                | (exfalso; omega; done)
                | exact ⟨(by rw [show rd (A 4) p = rd l9 p by omega]), (u (u (u A 8 l8) 9 l9) 10 l10), F, rfl, rfl, ⟨(LENS_u (LENS_u (LENS_u hL (by show (l8).length = (A 8).length; rw [k8, hL 8 (by decide)]; rfl)) (by show (l9).length = (A 9).length; rw [k9, hL 9 (by decide)]; rfl)) (by show (l10).length = (A 10).length; rw [k10, hL 10 (by decide)]; rfl)), hR0.2.1, hR0.2.2.1, hR0.2.2.2.1, hR0.2.2.2.2.1, hR0.2.2.2.2.2.1, hR0.2.2.2.2.2.2.1, hR0.2.2.2.2.2.2.2.1, hR0.2.2.2.2.2.2.2.2.1, (REFU_c hR0.2.2.2.2.2.2.2.2.2)⟩⟩
            | 2, hio, c110 =>
              cases hio
              refine R_s (f' := (74, [some (vR 88), some (vI p), some (vI q)], [], LAY (u (u (u (shA A) 8 l8) 9 l9) 10 l10) (shF F), 0, 0)) hc118 0 rfl trivial ?_
              refine R_s (P := (0 ≤ p ∧ p < ((A 5).length : Int)) ∧ True) (f' := (80, [some (vR 88), some (vI p), some (vI q)], [vI (rd (A 5) p)], LAY (u (u (u (shA A) 8 l8) 9 l9) 10 l10) (shF F), 0, 0)) hc118 4 rfl ⟨⟨by omega, by omega⟩, trivial⟩ ?_
              refine R_reti hc118 rfl rfl ?_
              first
                | (exfalso; omega; done)
                | exact ⟨(by rw [show rd (A 5) p = rd l9 p by omega]), (u (u (u A 8 l8) 9 l9) 10 l10), F, rfl, rfl, ⟨(LENS_u (LENS_u (LENS_u hL (by show (l8).length = (A 8).length; rw [k8, hL 8 (by decide)]; rfl)) (by show (l9).length = (A 9).length; rw [k9, hL 9 (by decide)]; rfl)) (by show (l10).length = (A 10).length; rw [k10, hL 10 (by decide)]; rfl)), hR0.2.1, hR0.2.2.1, hR0.2.2.2.1, hR0.2.2.2.2.1, hR0.2.2.2.2.2.1, hR0.2.2.2.2.2.2.1, hR0.2.2.2.2.2.2.2.1, hR0.2.2.2.2.2.2.2.2.1, (REFU_c hR0.2.2.2.2.2.2.2.2.2)⟩⟩
            | 3, hio, c110 =>
              cases hio
              refine R_s (f' := (81, [some (vR 88), some (vI p), some (vI q)], [], LAY (u (u (u (shA A) 8 l8) 9 l9) 10 l10) (shF F), 0, 0)) hc118 0 rfl trivial ?_
              refine R_s (P := (0 ≤ p ∧ p < ((A 6).length : Int)) ∧ True) (f' := (87, [some (vR 88), some (vI p), some (vI q)], [vI (rd (A 6) p)], LAY (u (u (u (shA A) 8 l8) 9 l9) 10 l10) (shF F), 0, 0)) hc118 4 rfl ⟨⟨by omega, by omega⟩, trivial⟩ ?_
              refine R_if (t := 94) hc118 rfl rfl (fun (c111 : rd (A 6) p = 0) => ?_) (fun (c111 : ¬ (rd (A 6) p = 0)) => ?_)
              · refine R_s (P := True) (f' := (95, [some (vR 88), some (vI p), some (vI q)], [vI 0], LAY (u (u (u (shA A) 8 l8) 9 l9) 10 l10) (shF F), 0, 0)) hc118 1 rfl trivial ?_
                refine R_reti hc118 rfl rfl ?_
                first
                  | (exfalso; omega; done)
                  | exact ⟨(by rw [show 0 = rd l9 p by omega]), (u (u (u A 8 l8) 9 l9) 10 l10), F, rfl, rfl, ⟨(LENS_u (LENS_u (LENS_u hL (by show (l8).length = (A 8).length; rw [k8, hL 8 (by decide)]; rfl)) (by show (l9).length = (A 9).length; rw [k9, hL 9 (by decide)]; rfl)) (by show (l10).length = (A 10).length; rw [k10, hL 10 (by decide)]; rfl)), hR0.2.1, hR0.2.2.1, hR0.2.2.2.1, hR0.2.2.2.2.1, hR0.2.2.2.2.2.1, hR0.2.2.2.2.2.2.1, hR0.2.2.2.2.2.2.2.1, hR0.2.2.2.2.2.2.2.2.1, (REFU_c hR0.2.2.2.2.2.2.2.2.2)⟩⟩
              · refine R_s (P := True) (f' := (95, [some (vR 88), some (vI p), some (vI q)], [vI 1], LAY (u (u (u (shA A) 8 l8) 9 l9) 10 l10) (shF F), 0, 0)) hc118 2 rfl trivial ?_
                refine R_reti hc118 rfl rfl ?_
                first
                  | (exfalso; omega; done)
                  | exact ⟨(by rw [show 1 = rd l9 p by omega]), (u (u (u A 8 l8) 9 l9) 10 l10), F, rfl, rfl, ⟨(LENS_u (LENS_u (LENS_u hL (by show (l8).length = (A 8).length; rw [k8, hL 8 (by decide)]; rfl)) (by show (l9).length = (A 9).length; rw [k9, hL 9 (by decide)]; rfl)) (by show (l10).length = (A 10).length; rw [k10, hL 10 (by decide)]; rfl)), hR0.2.1, hR0.2.2.1, hR0.2.2.2.1, hR0.2.2.2.2.1, hR0.2.2.2.2.2.1, hR0.2.2.2.2.2.2.1, hR0.2.2.2.2.2.2.2.1, hR0.2.2.2.2.2.2.2.2.1, (REFU_c hR0.2.2.2.2.2.2.2.2.2)⟩⟩
            | 4, hio, c110 =>
              cases hio
              refine R_s (f' := (96, [some (vR 88), some (vI p), some (vI q)], [], LAY (u (u (u (shA A) 8 l8) 9 l9) 10 l10) (shF F), 0, 0)) hc118 0 rfl trivial ?_
              refine R_s (P := True) (f' := (98, [some (vR 88), some (vI p), some (vI q)], [vI p, vR 88], LAY (u (u (u (shA A) 8 l8) 9 l9) 10 l10) (shF F), 0, 0)) hc118 2 rfl trivial ?_
              refine R_cv hc118 rfl rfl (l_lives (A := (u (u (u (shA A) 8 l8) 9 l9) 10 l10)) (F := (shF F)) (n := (F 3).toNat) (R_n hR0) (R_n30 hR0) (hL 4 (by decide)) (hL 5 (by decide)) (hL 6 (by decide)) (hL 94 (by decide)) (R_U (A := A) hR0) (fun p hp => (R_mT (A := A) hR0 p hp).1) (al := N_al A F) (N_al_m (A := A) hR0) (k := p.toNat) (by omega) (by omega)) (fun r G9 hp9 => ?_)
              obtain ⟨rfl, rfl⟩ := hp9
              refine R_s (f' := (101, [some (vR 88), some (vI p), some (vI q)], [vI (N_al A F p.toNat)], LAY (u (u (u (shA A) 8 l8) 9 l9) 10 l10) (shF F), 0, 0)) hc118 0 rfl trivial ?_
              refine R_if (t := 108) hc118 rfl rfl (fun (c112 : N_al A F p.toNat = 0) => ?_) (fun (c112 : ¬ (N_al A F p.toNat = 0)) => ?_)
              · refine R_s (P := True) (f' := (109, [some (vR 88), some (vI p), some (vI q)], [vI 0], LAY (u (u (u (shA A) 8 l8) 9 l9) 10 l10) (shF F), 0, 0)) hc118 1 rfl trivial ?_
                refine R_reti hc118 rfl rfl ?_
                first
                  | (exfalso; omega; done)
                  | exact ⟨(by rw [show 0 = rd l9 p by omega]), (u (u (u A 8 l8) 9 l9) 10 l10), F, rfl, rfl, ⟨(LENS_u (LENS_u (LENS_u hL (by show (l8).length = (A 8).length; rw [k8, hL 8 (by decide)]; rfl)) (by show (l9).length = (A 9).length; rw [k9, hL 9 (by decide)]; rfl)) (by show (l10).length = (A 10).length; rw [k10, hL 10 (by decide)]; rfl)), hR0.2.1, hR0.2.2.1, hR0.2.2.2.1, hR0.2.2.2.2.1, hR0.2.2.2.2.2.1, hR0.2.2.2.2.2.2.1, hR0.2.2.2.2.2.2.2.1, hR0.2.2.2.2.2.2.2.2.1, (REFU_c hR0.2.2.2.2.2.2.2.2.2)⟩⟩
              · refine R_s (P := True) (f' := (109, [some (vR 88), some (vI p), some (vI q)], [vI 1], LAY (u (u (u (shA A) 8 l8) 9 l9) 10 l10) (shF F), 0, 0)) hc118 2 rfl trivial ?_
                refine R_reti hc118 rfl rfl ?_
                first
                  | (exfalso; omega; done)
                  | exact ⟨(by rw [show 1 = rd l9 p by omega]), (u (u (u A 8 l8) 9 l9) 10 l10), F, rfl, rfl, ⟨(LENS_u (LENS_u (LENS_u hL (by show (l8).length = (A 8).length; rw [k8, hL 8 (by decide)]; rfl)) (by show (l9).length = (A 9).length; rw [k9, hL 9 (by decide)]; rfl)) (by show (l10).length = (A 10).length; rw [k10, hL 10 (by decide)]; rfl)), hR0.2.1, hR0.2.2.1, hR0.2.2.2.1, hR0.2.2.2.2.1, hR0.2.2.2.2.2.1, hR0.2.2.2.2.2.2.1, hR0.2.2.2.2.2.2.2.1, hR0.2.2.2.2.2.2.2.2.1, (REFU_c hR0.2.2.2.2.2.2.2.2.2)⟩⟩
            | 5, hio, c110 =>
              cases hio
              refine R_s (f' := (110, [some (vR 88), some (vI p), some (vI q)], [], LAY (u (u (u (shA A) 8 l8) 9 l9) 10 l10) (shF F), 0, 0)) hc118 0 rfl trivial ?_
              refine R_s (P := True) (f' := (112, [some (vR 88), some (vI p), some (vI q)], [vI p, vR 88], LAY (u (u (u (shA A) 8 l8) 9 l9) 10 l10) (shF F), 0, 0)) hc118 2 rfl trivial ?_
              refine R_cv hc118 rfl rfl (l_childrenM (A := (u (u (u (shA A) 8 l8) 9 l9) 10 l10)) (F := (shF F)) (n := (F 3).toNat) (R_n hR0) (R_n30 hR0) (hL 3 (by decide)) (q := p)) (fun r G9 hp9 => ?_)
              obtain ⟨rfl, rfl⟩ := hp9
              refine R_s (f' := (115, [some (vR 88), some (vI p), some (vI q)], [vI (sm (fun c => if rd (A 3) c = p then 1 else 0) (F 3).toNat)], LAY (u (u (u (shA A) 8 l8) 9 l9) 10 l10) (shF F), 0, 0)) hc118 0 rfl trivial ?_
              refine R_reti hc118 rfl rfl ?_
              first
                | (exfalso; omega; done)
                | exact ⟨(by rw [show sm (fun c => if rd (A 3) c = p then 1 else 0) (F 3).toNat = rd l9 p by omega]), (u (u (u A 8 l8) 9 l9) 10 l10), F, rfl, rfl, ⟨(LENS_u (LENS_u (LENS_u hL (by show (l8).length = (A 8).length; rw [k8, hL 8 (by decide)]; rfl)) (by show (l9).length = (A 9).length; rw [k9, hL 9 (by decide)]; rfl)) (by show (l10).length = (A 10).length; rw [k10, hL 10 (by decide)]; rfl)), hR0.2.1, hR0.2.2.1, hR0.2.2.2.1, hR0.2.2.2.2.1, hR0.2.2.2.2.2.1, hR0.2.2.2.2.2.2.1, hR0.2.2.2.2.2.2.2.1, hR0.2.2.2.2.2.2.2.2.1, (REFU_c hR0.2.2.2.2.2.2.2.2.2)⟩⟩
            | 6, hio, c110 =>
              cases hio
              refine R_s (f' := (116, [some (vR 88), some (vI p), some (vI q)], [], LAY (u (u (u (shA A) 8 l8) 9 l9) 10 l10) (shF F), 0, 0)) hc118 0 rfl trivial ?_
              refine R_s (P := True) (f' := (118, [some (vR 88), some (vI p), some (vI q)], [vI p, vR 88], LAY (u (u (u (shA A) 8 l8) 9 l9) 10 l10) (shF F), 0, 0)) hc118 2 rfl trivial ?_
              refine R_cv hc118 rfl rfl (l_ofLine (A := (u (u (u (shA A) 8 l8) 9 l9) 10 l10)) (F := (shF F)) (n := (F 3).toNat) (R_n hR0) (R_n30 hR0) (hL 4 (by decide)) (hL 5 (by decide)) (hL 6 (by decide)) (hL 94 (by decide)) (R_U (A := A) hR0) (fun p hp => (R_mT (A := A) hR0 p hp).1) (al := N_al A F) (N_al_m (A := A) hR0) (R_TR (A := A) hR0) (hL 3 (by decide)) (ro := p.toNat) (by omega) (by omega) (hL 104 (by decide)) (hL 105 (by decide))) (fun r G9 hp9 => ?_)
              obtain ⟨e1, l104, l105, rfl, k104, k105, w0⟩ := hp9
              have e2 : r = some (vI (rd l9 p)) := by
                rw [y8.2]
                exact e1
              clear e1
              subst e2
              refine R_s (f' := (121, [some (vR 88), some (vI p), some (vI q)], [vI (rd l9 p)], LAY (u (u (u (u (u (shA A) 8 l8) 9 l9) 10 l10) 104 l104) 105 l105) (shF F), 0, 0)) hc118 0 rfl trivial ?_
              refine R_reti hc118 rfl rfl ?_
              first
                | (exfalso; omega; done)
                | exact ⟨rfl, (u (u (u (u (u A 8 l8) 9 l9) 10 l10) 104 l104) 105 l105), F, rfl, rfl, ⟨(LENS_u (LENS_u (LENS_u (LENS_u (LENS_u hL (by show (l8).length = (A 8).length; rw [k8, hL 8 (by decide)]; rfl)) (by show (l9).length = (A 9).length; rw [k9, hL 9 (by decide)]; rfl)) (by show (l10).length = (A 10).length; rw [k10, hL 10 (by decide)]; rfl)) (by show (l104).length = (A 104).length; rw [k104, hL 104 (by decide)]; rfl)) (by show (l105).length = (A 105).length; rw [k105, hL 105 (by decide)]; rfl)), hR0.2.1, hR0.2.2.1, hR0.2.2.2.1, hR0.2.2.2.2.1, hR0.2.2.2.2.2.1, hR0.2.2.2.2.2.2.1, hR0.2.2.2.2.2.2.2.1, hR0.2.2.2.2.2.2.2.2.1, (REFU_c hR0.2.2.2.2.2.2.2.2.2)⟩⟩
            | isw + 7, hio, c110 => exact absurd hio (by simp)
          · refine R_s (P := True) (f' := (125, [some (vR 88), some (vI p), some (vI q)], [vI (-7), vR 88], LAY (u (u (u (shA A) 8 l8) 9 l9) 10 l10) (shF F), 0, 0)) hc118 2 rfl trivial ?_
            refine R_cv hc118 rfl rfl ?_ (fun r G h => h)
            refine R_s (P := inI 7 ∧ (0 ≤ 7 ∧ 7 < ((A 87).length : Int)) ∧ inI ((rd (A 87) 7) + 1) ∧ (0 ≤ 7 ∧ 7 < ((A 87).length : Int)) ∧ True) (f' := (12, [some (vR 88), some (vI (-7))], [vI (-7)], LAY (u (u (u (u (shA A) 8 l8) 9 l9) 10 l10) 89 (wr (A 87) 7 ((rd (A 87) 7) + 1))) (shF F), 0, 0)) hc105 10 rfl ⟨⟨by omega, by omega⟩, ⟨by omega, by omega⟩, ⟨by omega, by omega⟩, ⟨by omega, by omega⟩, trivial⟩ ?_
            refine R_reti hc105 rfl rfl ?_
            refine R_s (f' := (128, [some (vR 88), some (vI p), some (vI q)], [vI (-7)], LAY (u (u (u (u (shA A) 8 l8) 9 l9) 10 l10) 89 (wr (A 87) 7 ((rd (A 87) 7) + 1))) (shF F), 0, 0)) hc118 0 rfl trivial ?_
            refine R_reti hc118 rfl rfl ?_
            first
              | (exfalso; omega; done)
              | exact ⟨(by rw [show (-7) = rd l9 p by omega]), (u (u (u A 8 l8) 9 l9) 10 l10), F, rfl, rfl, ⟨(LENS_u (LENS_u (LENS_u hL (by show (l8).length = (A 8).length; rw [k8, hL 8 (by decide)]; rfl)) (by show (l9).length = (A 9).length; rw [k9, hL 9 (by decide)]; rfl)) (by show (l10).length = (A 10).length; rw [k10, hL 10 (by decide)]; rfl)), hR0.2.1, hR0.2.2.1, hR0.2.2.2.1, hR0.2.2.2.2.1, hR0.2.2.2.2.2.1, hR0.2.2.2.2.2.2.1, hR0.2.2.2.2.2.2.2.1, hR0.2.2.2.2.2.2.2.2.1, (REFU_c hR0.2.2.2.2.2.2.2.2.2)⟩⟩
        | isw + 7, hio, c4 => exact absurd hio (by simp)
      · refine R_s (P := True) (f' := (150, [some (vR 1), some (vI p), some (vI q)], [vI (-7), vR 1], LAY (u (u (u (shA A) 8 l8) 9 l9) 10 l10) (shF F), 0, 0)) hc64 2 rfl trivial ?_
        refine R_cv hc64 rfl rfl ?_ (fun r G h => h)
        refine R_s (P := True) (f' := (3, [some (vR 1), some (vI (-7))], [vI (-2), vI (-7)], LAY (u (u (u (shA A) 8 l8) 9 l9) 10 l10) (shF F), 0, 0)) hc93 2 rfl trivial ?_
        refine R_ic (t := 23) hc93 rfl rfl (fun (z : (-2) < (-7)) => absurd z (by decide)) (fun (_ : ¬ ((-2) < (-7))) => ?_)
        refine R_s (P := True) (f' := (9, [some (vR 1), some (vI (-7))], [vI (-8), vI (-7)], LAY (u (u (u (shA A) 8 l8) 9 l9) 10 l10) (shF F), 0, 0)) hc93 2 rfl trivial ?_
        refine R_ic (t := 23) hc93 rfl rfl (fun (z : (-7) < (-8)) => absurd z (by decide)) (fun (_ : ¬ ((-7) < (-8))) => ?_)
        refine R_s (P := inI 7 ∧ (0 ≤ 7 ∧ 7 < ((A 87).length : Int)) ∧ inI ((rd (A 87) 7) + 1) ∧ (0 ≤ 7 ∧ 7 < ((A 87).length : Int)) ∧ True) (f' := (24, [some (vR 1), some (vI (-7))], [vI (-7)], LAY (u (u (u (u (shA A) 8 l8) 9 l9) 10 l10) 87 (wr (A 87) 7 ((rd (A 87) 7) + 1))) (shF F), 0, 0)) hc93 10 rfl ⟨⟨by omega, by omega⟩, ⟨by omega, by omega⟩, ⟨by omega, by omega⟩, ⟨by omega, by omega⟩, trivial⟩ ?_
        refine R_reti hc93 rfl rfl ?_
        refine R_s (f' := (153, [some (vR 1), some (vI p), some (vI q)], [vI (-7)], LAY (u (u (u (u (shA A) 8 l8) 9 l9) 10 l10) 87 (wr (A 87) 7 ((rd (A 87) 7) + 1))) (shF F), 0, 0)) hc64 0 rfl trivial ?_
        refine R_reti hc64 rfl rfl ⟨⟨_, rfl⟩, ⟨_, _, rfl, rfl⟩, ?_⟩
        refine R_s (P := True) (f' := (2, [some (vR 88), some (vI p), some (vI q)], [vI p, vR 88], LAY (u (u (u (u (shA A) 8 l8) 9 l9) 10 l10) 87 (wr (A 87) 7 ((rd (A 87) 7) + 1))) (shF F), 0, 0)) hc118 2 rfl trivial ?_
        refine R_cv hc118 rfl rfl ?_ (fun r G h => h)
        refine R_s (P := inI ((F 3) - 1) ∧ True) (f' := (8, [some (vR 88), some (vI p)], [vI ((F 3) - 1), vI 0, vI p], LAY (u (u (u (u (shA A) 8 l8) 9 l9) 10 l10) 87 (wr (A 87) 7 ((rd (A 87) 7) + 1))) (shF F), 0, 0)) hc106 6 rfl ⟨⟨by omega, by omega⟩, trivial⟩ ?_
        refine R_cs hc106 rfl rfl ?_ (fun r G h => h)
        refine R_s (P := True) (f' := (2, [some (vI p), some (vI 0), some (vI ((F 3) - 1))], [vI 0, vI p], LAY (u (u (u (u (shA A) 8 l8) 9 l9) 10 l10) 87 (wr (A 87) 7 ((rd (A 87) 7) + 1))) (shF F), 0, 0)) hc104 2 rfl trivial ?_
        refine R_ic (t := 14) hc104 rfl rfl (fun (z : p < 0) => absurd z (by omega)) (fun (_ : ¬ (p < 0)) => ?_)
        refine R_s (P := True) (f' := (7, [some (vI p), some (vI 0), some (vI ((F 3) - 1))], [vI ((F 3) - 1), vI p], LAY (u (u (u (u (shA A) 8 l8) 9 l9) 10 l10) 87 (wr (A 87) 7 ((rd (A 87) 7) + 1))) (shF F), 0, 0)) hc104 2 rfl trivial ?_
        refine R_ic (t := 14) hc104 rfl rfl (fun (z : (F 3) - 1 < p) => absurd z (by omega)) (fun (_ : ¬ ((F 3) - 1 < p)) => ?_)
        refine R_s (P := True) (f' := (15, [some (vI p), some (vI 0), some (vI ((F 3) - 1))], [vI 1], LAY (u (u (u (u (shA A) 8 l8) 9 l9) 10 l10) 87 (wr (A 87) 7 ((rd (A 87) 7) + 1))) (shF F), 0, 0)) hc104 2 rfl trivial ?_
        refine R_retz hc104 rfl rfl (Or.inr rfl) ?_
        refine R_s (f' := (11, [some (vR 88), some (vI p)], [vI 1], LAY (u (u (u (u (shA A) 8 l8) 9 l9) 10 l10) 87 (wr (A 87) 7 ((rd (A 87) 7) + 1))) (shF F), 0, 0)) hc106 0 rfl trivial ?_
        refine R_retz hc106 rfl rfl (Or.inr rfl) ?_
        refine R_s (f' := (5, [some (vR 88), some (vI p), some (vI q)], [vI 1], LAY (u (u (u (u (shA A) 8 l8) 9 l9) 10 l10) 87 (wr (A 87) 7 ((rd (A 87) 7) + 1))) (shF F), 0, 0)) hc118 0 rfl trivial ?_
        refine R_if (t := 15) hc118 rfl rfl (fun (_ : ¬ 1 = 0) => ?_) (fun (z : ¬ (¬ 1 = 0)) => absurd (by decide) z)
        refine R_s (P := True) (f' := (16, [some (vR 88), some (vI p), some (vI q)], [vI q], LAY (u (u (u (u (shA A) 8 l8) 9 l9) 10 l10) 87 (wr (A 87) 7 ((rd (A 87) 7) + 1))) (shF F), 0, 0)) hc118 1 rfl trivial ?_
        refine R_sw (t := 122) hc118 rfl (by decide) (fun isw o hio (c112 : q = 0 + isw) => ?_) rfl (fun (c112 : q < 0 ∨ 6 < q) => ?_)
        · match isw, hio, c112 with
          | 0, hio, c112 =>
            cases hio
            refine R_s (f' := (60, [some (vR 88), some (vI p), some (vI q)], [], LAY (u (u (u (u (shA A) 8 l8) 9 l9) 10 l10) 87 (wr (A 87) 7 ((rd (A 87) 7) + 1))) (shF F), 0, 0)) hc118 0 rfl trivial ?_
            refine R_s (P := (0 ≤ p ∧ p < ((A 3).length : Int)) ∧ True) (f' := (66, [some (vR 88), some (vI p), some (vI q)], [vI (rd (A 3) p)], LAY (u (u (u (u (shA A) 8 l8) 9 l9) 10 l10) 87 (wr (A 87) 7 ((rd (A 87) 7) + 1))) (shF F), 0, 0)) hc118 4 rfl ⟨⟨by omega, by omega⟩, trivial⟩ ?_
            refine R_reti hc118 rfl rfl ?_
            first
              | (exfalso; omega; done)
              | exact ⟨(by rw [show rd (A 3) p = (-7) by omega]), (u (u (u (u A 8 l8) 9 l9) 10 l10) 87 (wr (A 87) 7 ((rd (A 87) 7) + 1))), F, rfl, rfl, ⟨(LENS_u (LENS_u (LENS_u (LENS_u hL (by show (l8).length = (A 8).length; rw [k8, hL 8 (by decide)]; rfl)) (by show (l9).length = (A 9).length; rw [k9, hL 9 (by decide)]; rfl)) (by show (l10).length = (A 10).length; rw [k10, hL 10 (by decide)]; rfl)) (wr_len _ _ _)), hR0.2.1, hR0.2.2.1, hR0.2.2.2.1, hR0.2.2.2.2.1, hR0.2.2.2.2.2.1, hR0.2.2.2.2.2.2.1, hR0.2.2.2.2.2.2.2.1, hR0.2.2.2.2.2.2.2.2.1, (REFU_up hR0.2.2.2.2.2.2.2.2.2 (hL 87 (by decide)) (by decide) (by decide))⟩⟩
          | 1, hio, c112 =>
            cases hio
            refine R_s (f' := (67, [some (vR 88), some (vI p), some (vI q)], [], LAY (u (u (u (u (shA A) 8 l8) 9 l9) 10 l10) 87 (wr (A 87) 7 ((rd (A 87) 7) + 1))) (shF F), 0, 0)) hc118 0 rfl trivial ?_
            refine R_s (P := (0 ≤ p ∧ p < ((A 4).length : Int)) ∧ True) (f' := (73, [some (vR 88), some (vI p), some (vI q)], [vI (rd (A 4) p)], LAY (u (u (u (u (shA A) 8 l8) 9 l9) 10 l10) 87 (wr (A 87) 7 ((rd (A 87) 7) + 1))) (shF F), 0, 0)) hc118 4 rfl ⟨⟨by omega, by omega⟩, trivial⟩ ?_
            refine R_reti hc118 rfl rfl ?_
            first
              | (exfalso; omega; done)
              | exact ⟨(by rw [show rd (A 4) p = (-7) by omega]), (u (u (u (u A 8 l8) 9 l9) 10 l10) 87 (wr (A 87) 7 ((rd (A 87) 7) + 1))), F, rfl, rfl, ⟨(LENS_u (LENS_u (LENS_u (LENS_u hL (by show (l8).length = (A 8).length; rw [k8, hL 8 (by decide)]; rfl)) (by show (l9).length = (A 9).length; rw [k9, hL 9 (by decide)]; rfl)) (by show (l10).length = (A 10).length; rw [k10, hL 10 (by decide)]; rfl)) (wr_len _ _ _)), hR0.2.1, hR0.2.2.1, hR0.2.2.2.1, hR0.2.2.2.2.1, hR0.2.2.2.2.2.1, hR0.2.2.2.2.2.2.1, hR0.2.2.2.2.2.2.2.1, hR0.2.2.2.2.2.2.2.2.1, (REFU_up hR0.2.2.2.2.2.2.2.2.2 (hL 87 (by decide)) (by decide) (by decide))⟩⟩
          | 2, hio, c112 =>
            cases hio
            refine R_s (f' := (74, [some (vR 88), some (vI p), some (vI q)], [], LAY (u (u (u (u (shA A) 8 l8) 9 l9) 10 l10) 87 (wr (A 87) 7 ((rd (A 87) 7) + 1))) (shF F), 0, 0)) hc118 0 rfl trivial ?_
            refine R_s (P := (0 ≤ p ∧ p < ((A 5).length : Int)) ∧ True) (f' := (80, [some (vR 88), some (vI p), some (vI q)], [vI (rd (A 5) p)], LAY (u (u (u (u (shA A) 8 l8) 9 l9) 10 l10) 87 (wr (A 87) 7 ((rd (A 87) 7) + 1))) (shF F), 0, 0)) hc118 4 rfl ⟨⟨by omega, by omega⟩, trivial⟩ ?_
            refine R_reti hc118 rfl rfl ?_
            first
              | (exfalso; omega; done)
              | exact ⟨(by rw [show rd (A 5) p = (-7) by omega]), (u (u (u (u A 8 l8) 9 l9) 10 l10) 87 (wr (A 87) 7 ((rd (A 87) 7) + 1))), F, rfl, rfl, ⟨(LENS_u (LENS_u (LENS_u (LENS_u hL (by show (l8).length = (A 8).length; rw [k8, hL 8 (by decide)]; rfl)) (by show (l9).length = (A 9).length; rw [k9, hL 9 (by decide)]; rfl)) (by show (l10).length = (A 10).length; rw [k10, hL 10 (by decide)]; rfl)) (wr_len _ _ _)), hR0.2.1, hR0.2.2.1, hR0.2.2.2.1, hR0.2.2.2.2.1, hR0.2.2.2.2.2.1, hR0.2.2.2.2.2.2.1, hR0.2.2.2.2.2.2.2.1, hR0.2.2.2.2.2.2.2.2.1, (REFU_up hR0.2.2.2.2.2.2.2.2.2 (hL 87 (by decide)) (by decide) (by decide))⟩⟩
          | 3, hio, c112 =>
            cases hio
            refine R_s (f' := (81, [some (vR 88), some (vI p), some (vI q)], [], LAY (u (u (u (u (shA A) 8 l8) 9 l9) 10 l10) 87 (wr (A 87) 7 ((rd (A 87) 7) + 1))) (shF F), 0, 0)) hc118 0 rfl trivial ?_
            refine R_s (P := (0 ≤ p ∧ p < ((A 6).length : Int)) ∧ True) (f' := (87, [some (vR 88), some (vI p), some (vI q)], [vI (rd (A 6) p)], LAY (u (u (u (u (shA A) 8 l8) 9 l9) 10 l10) 87 (wr (A 87) 7 ((rd (A 87) 7) + 1))) (shF F), 0, 0)) hc118 4 rfl ⟨⟨by omega, by omega⟩, trivial⟩ ?_
            refine R_if (t := 94) hc118 rfl rfl (fun (c113 : rd (A 6) p = 0) => ?_) (fun (c113 : ¬ (rd (A 6) p = 0)) => ?_)
            · refine R_s (P := True) (f' := (95, [some (vR 88), some (vI p), some (vI q)], [vI 0], LAY (u (u (u (u (shA A) 8 l8) 9 l9) 10 l10) 87 (wr (A 87) 7 ((rd (A 87) 7) + 1))) (shF F), 0, 0)) hc118 1 rfl trivial ?_
              refine R_reti hc118 rfl rfl ?_
              first
                | (exfalso; omega; done)
                | exact ⟨(by rw [show 0 = (-7) by omega]), (u (u (u (u A 8 l8) 9 l9) 10 l10) 87 (wr (A 87) 7 ((rd (A 87) 7) + 1))), F, rfl, rfl, ⟨(LENS_u (LENS_u (LENS_u (LENS_u hL (by show (l8).length = (A 8).length; rw [k8, hL 8 (by decide)]; rfl)) (by show (l9).length = (A 9).length; rw [k9, hL 9 (by decide)]; rfl)) (by show (l10).length = (A 10).length; rw [k10, hL 10 (by decide)]; rfl)) (wr_len _ _ _)), hR0.2.1, hR0.2.2.1, hR0.2.2.2.1, hR0.2.2.2.2.1, hR0.2.2.2.2.2.1, hR0.2.2.2.2.2.2.1, hR0.2.2.2.2.2.2.2.1, hR0.2.2.2.2.2.2.2.2.1, (REFU_up hR0.2.2.2.2.2.2.2.2.2 (hL 87 (by decide)) (by decide) (by decide))⟩⟩
            · refine R_s (P := True) (f' := (95, [some (vR 88), some (vI p), some (vI q)], [vI 1], LAY (u (u (u (u (shA A) 8 l8) 9 l9) 10 l10) 87 (wr (A 87) 7 ((rd (A 87) 7) + 1))) (shF F), 0, 0)) hc118 2 rfl trivial ?_
              refine R_reti hc118 rfl rfl ?_
              first
                | (exfalso; omega; done)
                | exact ⟨(by rw [show 1 = (-7) by omega]), (u (u (u (u A 8 l8) 9 l9) 10 l10) 87 (wr (A 87) 7 ((rd (A 87) 7) + 1))), F, rfl, rfl, ⟨(LENS_u (LENS_u (LENS_u (LENS_u hL (by show (l8).length = (A 8).length; rw [k8, hL 8 (by decide)]; rfl)) (by show (l9).length = (A 9).length; rw [k9, hL 9 (by decide)]; rfl)) (by show (l10).length = (A 10).length; rw [k10, hL 10 (by decide)]; rfl)) (wr_len _ _ _)), hR0.2.1, hR0.2.2.1, hR0.2.2.2.1, hR0.2.2.2.2.1, hR0.2.2.2.2.2.1, hR0.2.2.2.2.2.2.1, hR0.2.2.2.2.2.2.2.1, hR0.2.2.2.2.2.2.2.2.1, (REFU_up hR0.2.2.2.2.2.2.2.2.2 (hL 87 (by decide)) (by decide) (by decide))⟩⟩
          | 4, hio, c112 =>
            cases hio
            refine R_s (f' := (96, [some (vR 88), some (vI p), some (vI q)], [], LAY (u (u (u (u (shA A) 8 l8) 9 l9) 10 l10) 87 (wr (A 87) 7 ((rd (A 87) 7) + 1))) (shF F), 0, 0)) hc118 0 rfl trivial ?_
            refine R_s (P := True) (f' := (98, [some (vR 88), some (vI p), some (vI q)], [vI p, vR 88], LAY (u (u (u (u (shA A) 8 l8) 9 l9) 10 l10) 87 (wr (A 87) 7 ((rd (A 87) 7) + 1))) (shF F), 0, 0)) hc118 2 rfl trivial ?_
            refine R_cv hc118 rfl rfl (l_lives (A := (u (u (u (u (shA A) 8 l8) 9 l9) 10 l10) 87 (wr (A 87) 7 ((rd (A 87) 7) + 1)))) (F := (shF F)) (n := (F 3).toNat) (R_n hR0) (R_n30 hR0) (hL 4 (by decide)) (hL 5 (by decide)) (hL 6 (by decide)) (hL 94 (by decide)) (R_U (A := A) hR0) (fun p hp => (R_mT (A := A) hR0 p hp).1) (al := N_al A F) (N_al_m (A := A) hR0) (k := p.toNat) (by omega) (by omega)) (fun r G9 hp9 => ?_)
            obtain ⟨rfl, rfl⟩ := hp9
            refine R_s (f' := (101, [some (vR 88), some (vI p), some (vI q)], [vI (N_al A F p.toNat)], LAY (u (u (u (u (shA A) 8 l8) 9 l9) 10 l10) 87 (wr (A 87) 7 ((rd (A 87) 7) + 1))) (shF F), 0, 0)) hc118 0 rfl trivial ?_
            refine R_if (t := 108) hc118 rfl rfl (fun (c114 : N_al A F p.toNat = 0) => ?_) (fun (c114 : ¬ (N_al A F p.toNat = 0)) => ?_)
            · refine R_s (P := True) (f' := (109, [some (vR 88), some (vI p), some (vI q)], [vI 0], LAY (u (u (u (u (shA A) 8 l8) 9 l9) 10 l10) 87 (wr (A 87) 7 ((rd (A 87) 7) + 1))) (shF F), 0, 0)) hc118 1 rfl trivial ?_
              refine R_reti hc118 rfl rfl ?_
              first
                | (exfalso; omega; done)
                | exact ⟨(by rw [show 0 = (-7) by omega]), (u (u (u (u A 8 l8) 9 l9) 10 l10) 87 (wr (A 87) 7 ((rd (A 87) 7) + 1))), F, rfl, rfl, ⟨(LENS_u (LENS_u (LENS_u (LENS_u hL (by show (l8).length = (A 8).length; rw [k8, hL 8 (by decide)]; rfl)) (by show (l9).length = (A 9).length; rw [k9, hL 9 (by decide)]; rfl)) (by show (l10).length = (A 10).length; rw [k10, hL 10 (by decide)]; rfl)) (wr_len _ _ _)), hR0.2.1, hR0.2.2.1, hR0.2.2.2.1, hR0.2.2.2.2.1, hR0.2.2.2.2.2.1, hR0.2.2.2.2.2.2.1, hR0.2.2.2.2.2.2.2.1, hR0.2.2.2.2.2.2.2.2.1, (REFU_up hR0.2.2.2.2.2.2.2.2.2 (hL 87 (by decide)) (by decide) (by decide))⟩⟩
            · refine R_s (P := True) (f' := (109, [some (vR 88), some (vI p), some (vI q)], [vI 1], LAY (u (u (u (u (shA A) 8 l8) 9 l9) 10 l10) 87 (wr (A 87) 7 ((rd (A 87) 7) + 1))) (shF F), 0, 0)) hc118 2 rfl trivial ?_
              refine R_reti hc118 rfl rfl ?_
              first
                | (exfalso; omega; done)
                | exact ⟨(by rw [show 1 = (-7) by omega]), (u (u (u (u A 8 l8) 9 l9) 10 l10) 87 (wr (A 87) 7 ((rd (A 87) 7) + 1))), F, rfl, rfl, ⟨(LENS_u (LENS_u (LENS_u (LENS_u hL (by show (l8).length = (A 8).length; rw [k8, hL 8 (by decide)]; rfl)) (by show (l9).length = (A 9).length; rw [k9, hL 9 (by decide)]; rfl)) (by show (l10).length = (A 10).length; rw [k10, hL 10 (by decide)]; rfl)) (wr_len _ _ _)), hR0.2.1, hR0.2.2.1, hR0.2.2.2.1, hR0.2.2.2.2.1, hR0.2.2.2.2.2.1, hR0.2.2.2.2.2.2.1, hR0.2.2.2.2.2.2.2.1, hR0.2.2.2.2.2.2.2.2.1, (REFU_up hR0.2.2.2.2.2.2.2.2.2 (hL 87 (by decide)) (by decide) (by decide))⟩⟩
          | 5, hio, c112 =>
            cases hio
            refine R_s (f' := (110, [some (vR 88), some (vI p), some (vI q)], [], LAY (u (u (u (u (shA A) 8 l8) 9 l9) 10 l10) 87 (wr (A 87) 7 ((rd (A 87) 7) + 1))) (shF F), 0, 0)) hc118 0 rfl trivial ?_
            refine R_s (P := True) (f' := (112, [some (vR 88), some (vI p), some (vI q)], [vI p, vR 88], LAY (u (u (u (u (shA A) 8 l8) 9 l9) 10 l10) 87 (wr (A 87) 7 ((rd (A 87) 7) + 1))) (shF F), 0, 0)) hc118 2 rfl trivial ?_
            refine R_cv hc118 rfl rfl (l_childrenM (A := (u (u (u (u (shA A) 8 l8) 9 l9) 10 l10) 87 (wr (A 87) 7 ((rd (A 87) 7) + 1)))) (F := (shF F)) (n := (F 3).toNat) (R_n hR0) (R_n30 hR0) (hL 3 (by decide)) (q := p)) (fun r G9 hp9 => ?_)
            obtain ⟨rfl, rfl⟩ := hp9
            refine R_s (f' := (115, [some (vR 88), some (vI p), some (vI q)], [vI (sm (fun c => if rd (A 3) c = p then 1 else 0) (F 3).toNat)], LAY (u (u (u (u (shA A) 8 l8) 9 l9) 10 l10) 87 (wr (A 87) 7 ((rd (A 87) 7) + 1))) (shF F), 0, 0)) hc118 0 rfl trivial ?_
            refine R_reti hc118 rfl rfl ?_
            first
              | (exfalso; omega; done)
              | exact ⟨(by rw [show sm (fun c => if rd (A 3) c = p then 1 else 0) (F 3).toNat = (-7) by omega]), (u (u (u (u A 8 l8) 9 l9) 10 l10) 87 (wr (A 87) 7 ((rd (A 87) 7) + 1))), F, rfl, rfl, ⟨(LENS_u (LENS_u (LENS_u (LENS_u hL (by show (l8).length = (A 8).length; rw [k8, hL 8 (by decide)]; rfl)) (by show (l9).length = (A 9).length; rw [k9, hL 9 (by decide)]; rfl)) (by show (l10).length = (A 10).length; rw [k10, hL 10 (by decide)]; rfl)) (wr_len _ _ _)), hR0.2.1, hR0.2.2.1, hR0.2.2.2.1, hR0.2.2.2.2.1, hR0.2.2.2.2.2.1, hR0.2.2.2.2.2.2.1, hR0.2.2.2.2.2.2.2.1, hR0.2.2.2.2.2.2.2.2.1, (REFU_up hR0.2.2.2.2.2.2.2.2.2 (hL 87 (by decide)) (by decide) (by decide))⟩⟩
          | 6, hio, c112 =>
            cases hio
            refine R_s (f' := (116, [some (vR 88), some (vI p), some (vI q)], [], LAY (u (u (u (u (shA A) 8 l8) 9 l9) 10 l10) 87 (wr (A 87) 7 ((rd (A 87) 7) + 1))) (shF F), 0, 0)) hc118 0 rfl trivial ?_
            refine R_s (P := True) (f' := (118, [some (vR 88), some (vI p), some (vI q)], [vI p, vR 88], LAY (u (u (u (u (shA A) 8 l8) 9 l9) 10 l10) 87 (wr (A 87) 7 ((rd (A 87) 7) + 1))) (shF F), 0, 0)) hc118 2 rfl trivial ?_
            refine R_cv hc118 rfl rfl (l_ofLine (A := (u (u (u (u (shA A) 8 l8) 9 l9) 10 l10) 87 (wr (A 87) 7 ((rd (A 87) 7) + 1)))) (F := (shF F)) (n := (F 3).toNat) (R_n hR0) (R_n30 hR0) (hL 4 (by decide)) (hL 5 (by decide)) (hL 6 (by decide)) (hL 94 (by decide)) (R_U (A := A) hR0) (fun p hp => (R_mT (A := A) hR0 p hp).1) (al := N_al A F) (N_al_m (A := A) hR0) (R_TR (A := A) hR0) (hL 3 (by decide)) (ro := p.toNat) (by omega) (by omega) (hL 104 (by decide)) (hL 105 (by decide))) (fun r G9 hp9 => ?_)
            obtain ⟨e1, l104, l105, rfl, k104, k105, w0⟩ := hp9
            have e2 : r = some (vI (rd l9 p)) := by
              rw [y8.2]
              exact e1
            clear e1
            subst e2
            refine R_s (f' := (121, [some (vR 88), some (vI p), some (vI q)], [vI (rd l9 p)], LAY (u (u (u (u (u (u (shA A) 8 l8) 9 l9) 10 l10) 87 (wr (A 87) 7 ((rd (A 87) 7) + 1))) 104 l104) 105 l105) (shF F), 0, 0)) hc118 0 rfl trivial ?_
            refine R_reti hc118 rfl rfl ?_
            first
              | (exfalso; omega; done)
              | exact ⟨(by rw [show rd l9 p = (-7) by omega]), (u (u (u (u (u (u A 8 l8) 9 l9) 10 l10) 87 (wr (A 87) 7 ((rd (A 87) 7) + 1))) 104 l104) 105 l105), F, rfl, rfl, ⟨(LENS_u (LENS_u (LENS_u (LENS_u (LENS_u (LENS_u hL (by show (l8).length = (A 8).length; rw [k8, hL 8 (by decide)]; rfl)) (by show (l9).length = (A 9).length; rw [k9, hL 9 (by decide)]; rfl)) (by show (l10).length = (A 10).length; rw [k10, hL 10 (by decide)]; rfl)) (wr_len _ _ _)) (by show (l104).length = (A 104).length; rw [k104, hL 104 (by decide)]; rfl)) (by show (l105).length = (A 105).length; rw [k105, hL 105 (by decide)]; rfl)), hR0.2.1, hR0.2.2.1, hR0.2.2.2.1, hR0.2.2.2.2.1, hR0.2.2.2.2.2.1, hR0.2.2.2.2.2.2.1, hR0.2.2.2.2.2.2.2.1, hR0.2.2.2.2.2.2.2.2.1, (REFU_up hR0.2.2.2.2.2.2.2.2.2 (hL 87 (by decide)) (by decide) (by decide))⟩⟩
          | isw + 7, hio, c112 => exact absurd hio (by simp)
        · refine R_s (P := True) (f' := (125, [some (vR 88), some (vI p), some (vI q)], [vI (-7), vR 88], LAY (u (u (u (u (shA A) 8 l8) 9 l9) 10 l10) 87 (wr (A 87) 7 ((rd (A 87) 7) + 1))) (shF F), 0, 0)) hc118 2 rfl trivial ?_
          refine R_cv hc118 rfl rfl ?_ (fun r G h => h)
          refine R_s (P := inI 7 ∧ (0 ≤ 7 ∧ 7 < ((A 87).length : Int)) ∧ inI ((rd (A 87) 7) + 1) ∧ (0 ≤ 7 ∧ 7 < ((A 87).length : Int)) ∧ True) (f' := (12, [some (vR 88), some (vI (-7))], [vI (-7)], LAY (u (u (u (u (u (shA A) 8 l8) 9 l9) 10 l10) 87 (wr (A 87) 7 ((rd (A 87) 7) + 1))) 89 (wr (A 87) 7 ((rd (A 87) 7) + 1))) (shF F), 0, 0)) hc105 10 rfl ⟨⟨by omega, by omega⟩, ⟨by omega, by omega⟩, ⟨by omega, by omega⟩, ⟨by omega, by omega⟩, trivial⟩ ?_
          refine R_reti hc105 rfl rfl ?_
          refine R_s (f' := (128, [some (vR 88), some (vI p), some (vI q)], [vI (-7)], LAY (u (u (u (u (u (shA A) 8 l8) 9 l9) 10 l10) 87 (wr (A 87) 7 ((rd (A 87) 7) + 1))) 89 (wr (A 87) 7 ((rd (A 87) 7) + 1))) (shF F), 0, 0)) hc118 0 rfl trivial ?_
          refine R_reti hc118 rfl rfl ?_
          first
            | (exfalso; omega; done)
            | exact ⟨rfl, (u (u (u (u A 8 l8) 9 l9) 10 l10) 87 (wr (A 87) 7 ((rd (A 87) 7) + 1))), F, rfl, rfl, ⟨(LENS_u (LENS_u (LENS_u (LENS_u hL (by show (l8).length = (A 8).length; rw [k8, hL 8 (by decide)]; rfl)) (by show (l9).length = (A 9).length; rw [k9, hL 9 (by decide)]; rfl)) (by show (l10).length = (A 10).length; rw [k10, hL 10 (by decide)]; rfl)) (wr_len _ _ _)), hR0.2.1, hR0.2.2.1, hR0.2.2.2.1, hR0.2.2.2.2.1, hR0.2.2.2.2.2.1, hR0.2.2.2.2.2.2.1, hR0.2.2.2.2.2.2.2.1, hR0.2.2.2.2.2.2.2.2.1, (REFU_up hR0.2.2.2.2.2.2.2.2.2 (hL 87 (by decide)) (by decide) (by decide))⟩⟩

set_option maxHeartbeats 4000000 in
theorem op_count {c : Int} {A : Nat → List Int} {F : Nat → Int} (hR : REL c A F) (hc : c < 512) (q : Int) (i_q : inI q) : R 87 (0, L0 87 [vR 1, vI q], [], LAY (shA A) (shF F), 0, 0) (fun r G => (∃ x, r = some (vI x)) ∧ (∃ (A1 : Nat → List Int) (F1 : Nat → Int), G = LAY A1 F1 ∧ A1 0 = A 0) ∧ R 163 (0, L0 163 [vR 88, vI q], [], G, 0, 0) (fun r2 G2 => r2 = r ∧ ∃ (A' : Nat → List Int) (F' : Nat → Int), G2 = LAY (shA A') (shF F') ∧ A' 0 = A 0 ∧ REL (c + 1) A' F')) := by
  have hR0 := hR
  obtain ⟨hL, hPE, hTH, hTP, hDE, hLE, hNO, hAC, hRO, hRE⟩ := hR
  have j_q := i_q
  unfold inI at j_q
  have h87 : (A 87).length = 9 := hL 87 (by decide)
  have r2 := REFU_at hRE (k := 2) (by decide) (by decide) hc
  have r3 := REFU_at hRE (k := 3) (by decide) (by decide) hc
  have r4 := REFU_at hRE (k := 4) (by decide) (by decide) hc
  have r5 := REFU_at hRE (k := 5) (by decide) (by decide) hc
  have r6 := REFU_at hRE (k := 6) (by decide) (by decide) hc
  have r7 := REFU_at hRE (k := 7) (by decide) (by decide) hc
  have r8 := REFU_at hRE (k := 8) (by decide) (by decide) hc
  obtain ⟨t1, t2, t3, t4, t5, t6⟩ := hTH
  obtain ⟨p1, p2, p3, p4, p5, p6⟩ := hPE
  refine R_s (P := True) (f' := (1, [some (vR 1), some (vI q)], [vI q], LAY (shA A) (shF F), 0, 0)) hc87 1 rfl trivial ?_
  refine R_sw (t := 118) hc87 rfl (by decide) (fun isw o hio (c1 : q = 0 + isw) => ?_) rfl (fun (c1 : q < 0 ∨ 7 < q) => ?_)
  · match isw, hio, c1 with
    | 0, hio, c1 =>
      cases hio
      refine R_s (f' := (48, [some (vR 1), some (vI q)], [], LAY (shA A) (shF F), 0, 0)) hc87 0 rfl trivial ?_
      refine R_s (P := True) (f' := (52, [some (vR 1), some (vI q)], [vI (F 2)], LAY (shA A) (shF F), 0, 0)) hc87 2 rfl trivial ?_
      refine R_reti hc87 rfl rfl ⟨⟨_, rfl⟩, ⟨_, _, rfl, rfl⟩, ?_⟩
      refine R_s (P := True) (f' := (3, [some (vR 88), some (vI q), some (vI 0), none], [vI q], LAY (shA A) (shF F), 0, 0)) hc163 3 rfl trivial ?_
      refine R_sw (t := 147) hc163 rfl (by decide) (fun isw o hio (c102 : q = 0 + isw) => ?_) rfl (fun (c102 : q < 0 ∨ 7 < q) => ?_)
      · match isw, hio, c102 with
        | 0, hio, c102 =>
          cases hio
          refine R_s (f' := (48, [some (vR 88), some (vI q), some (vI 0), none], [], LAY (shA A) (shF F), 0, 0)) hc163 0 rfl trivial ?_
          refine R_s (P := True) (f' := (52, [some (vR 88), some (vI q), some (vI 0), none], [vI (F 2)], LAY (shA A) (shF F), 0, 0)) hc163 2 rfl trivial ?_
          refine R_reti hc163 rfl rfl ?_
          first
            | (exfalso; omega; done)
            | exact ⟨rfl, A, F, rfl, rfl, REL_c hR0⟩
        | 1, hio, c102 =>
          cases hio
          refine R_s (f' := (53, [some (vR 88), some (vI q), some (vI 0), none], [], LAY (shA A) (shF F), 0, 0)) hc163 0 rfl trivial ?_
          refine R_s (P := True) (f' := (57, [some (vR 88), some (vI q), some (vI 0), none], [vI (F 3)], LAY (shA A) (shF F), 0, 0)) hc163 2 rfl trivial ?_
          refine R_reti hc163 rfl rfl ?_
          first
            | (exfalso; omega; done)
            | exact ⟨(by rw [show F 3 = F 2 by omega]), A, F, rfl, rfl, REL_c hR0⟩
        | 2, hio, c102 =>
          cases hio
          refine R_s (f' := (58, [some (vR 88), some (vI q), some (vI 0), none], [], LAY (shA A) (shF F), 0, 0)) hc163 0 rfl trivial ?_
          refine R_s (P := True) (f' := (62, [some (vR 88), some (vI q), some (vI 0), none], [vI (F 4)], LAY (shA A) (shF F), 0, 0)) hc163 2 rfl trivial ?_
          refine R_reti hc163 rfl rfl ?_
          first
            | (exfalso; omega; done)
            | exact ⟨(by rw [show F 4 = F 2 by omega]), A, F, rfl, rfl, REL_c hR0⟩
        | 3, hio, c102 =>
          cases hio
          refine R_s (f' := (63, [some (vR 88), some (vI q), some (vI 0), none], [], LAY (shA A) (shF F), 0, 0)) hc163 0 rfl trivial ?_
          refine R_s (P := True) (f' := (67, [some (vR 88), some (vI q), some (vI 0), none], [vI (F 0)], LAY (shA A) (shF F), 0, 0)) hc163 2 rfl trivial ?_
          refine R_reti hc163 rfl rfl ?_
          first
            | (exfalso; omega; done)
            | exact ⟨(by rw [show F 0 = F 2 by omega]), A, F, rfl, rfl, REL_c hR0⟩
        | 4, hio, c102 =>
          cases hio
          refine R_s (f' := (68, [some (vR 88), some (vI q), some (vI 0), none], [], LAY (shA A) (shF F), 0, 0)) hc163 0 rfl trivial ?_
          refine R_s (P := True) (f' := (72, [some (vR 88), some (vI q), some (vI 0), none], [vI (F 5)], LAY (shA A) (shF F), 0, 0)) hc163 2 rfl trivial ?_
          refine R_reti hc163 rfl rfl ?_
          first
            | (exfalso; omega; done)
            | exact ⟨(by rw [show F 5 = F 2 by omega]), A, F, rfl, rfl, REL_c hR0⟩
        | 5, hio, c102 =>
          cases hio
          refine R_s (f' := (73, [some (vR 88), some (vI q), some (vI 0), none], [], LAY (shA A) (shF F), 0, 0)) hc163 0 rfl trivial ?_
          refine R_s (P := True) (f' := (75, [some (vR 88), some (vI q), some (vI 0), some (vI 0)], [], LAY (shA A) (shF F), 0, 0)) hc163 2 rfl trivial ?_
          refine R_mono (count_M5 (A := (shA A)) (F := (shF F)) (n := (F 3).toNat) (R_n hR0) (R_n30 hR0) (hL 4 (by decide)) (hL 5 (by decide)) (hL 6 (by decide)) (hL 94 (by decide)) (R_U (A := A) hR0) (fun p hp => (R_mT (A := A) hR0 p hp).1) (al := N_al A F) (N_al_m (A := A) hR0)) (fun r8 G8 hp8 => ?_)
          obtain ⟨e8, rfl⟩ := hp8
          have e9 : r8 = some (vI (sm (N_al A F) (F 3).toNat)) := e8
          clear e8
          subst e9
          first
            | (exfalso; omega; done)
            | exact ⟨(by rw [show sm (N_al A F) (F 3).toNat = F 2 by omega]), A, F, rfl, rfl, REL_c hR0⟩
        | 6, hio, c102 =>
          cases hio
          refine R_s (f' := (107, [some (vR 88), some (vI q), some (vI 0), none], [], LAY (shA A) (shF F), 0, 0)) hc163 0 rfl trivial ?_
          refine R_s (P := True) (f' := (109, [some (vR 88), some (vI q), some (vI 0), some (vI 0)], [], LAY (shA A) (shF F), 0, 0)) hc163 2 rfl trivial ?_
          refine R_mono (count_M6 (A := (shA A)) (F := (shF F)) ⟨hLE.1.1, hLE.1.2.1⟩ (hL 83 (by decide))) (fun r8 G8 hp8 => ?_)
          obtain ⟨e8, rfl⟩ := hp8
          have e9 : r8 = some (vI (sm (fun i => if rd (A 83) i = 0 then 0 else 1) (F 16).toNat)) := e8
          clear e8
          subst e9
          first
            | (exfalso; omega; done)
            | exact ⟨(by rw [show sm (fun i => if rd (A 83) i = 0 then 0 else 1) (F 16).toNat = F 2 by omega]), A, F, rfl, rfl, REL_c hR0⟩
        | 7, hio, c102 =>
          cases hio
          refine R_s (f' := (142, [some (vR 88), some (vI q), some (vI 0), none], [], LAY (shA A) (shF F), 0, 0)) hc163 0 rfl trivial ?_
          refine R_s (P := True) (f' := (143, [some (vR 88), some (vI q), some (vI 0), none], [vR 88], LAY (shA A) (shF F), 0, 0)) hc163 1 rfl trivial ?_
          refine R_cv hc163 rfl rfl (l_unknowns (A := (shA A)) (F := (shF F)) (LENS_sh hL) ⟨p1, p2⟩) (fun r G9 hp9 => ?_)
          obtain ⟨rfl, rfl⟩ := hp9
          refine R_s (f' := (146, [some (vR 88), some (vI q), some (vI 0), none], [vI (sm (fun i => if rd (A 6) i = 0 then 0 else 1) (F 3).toNat)], LAY (shA A) (shF F), 0, 0)) hc163 0 rfl trivial ?_
          refine R_reti hc163 rfl rfl ?_
          first
            | (exfalso; omega; done)
            | exact ⟨(by rw [show sm (fun i => if rd (A 6) i = 0 then 0 else 1) (F 3).toNat = F 2 by omega]), A, F, rfl, rfl, REL_c hR0⟩
        | isw + 8, hio, c102 => exact absurd hio (by simp)
      · refine R_s (P := True) (f' := (150, [some (vR 88), some (vI q), some (vI 0), none], [vI (-7), vR 88], LAY (shA A) (shF F), 0, 0)) hc163 2 rfl trivial ?_
        refine R_cv hc163 rfl rfl ?_ (fun r G h => h)
        refine R_s (P := inI 7 ∧ (0 ≤ 7 ∧ 7 < ((A 87).length : Int)) ∧ inI ((rd (A 87) 7) + 1) ∧ (0 ≤ 7 ∧ 7 < ((A 87).length : Int)) ∧ True) (f' := (12, [some (vR 88), some (vI (-7))], [vI (-7)], LAY (u (shA A) 89 (wr (A 87) 7 ((rd (A 87) 7) + 1))) (shF F), 0, 0)) hc105 10 rfl ⟨⟨by omega, by omega⟩, ⟨by omega, by omega⟩, ⟨by omega, by omega⟩, ⟨by omega, by omega⟩, trivial⟩ ?_
        refine R_reti hc105 rfl rfl ?_
        refine R_s (f' := (153, [some (vR 88), some (vI q), some (vI 0), none], [vI (-7)], LAY (u (shA A) 89 (wr (A 87) 7 ((rd (A 87) 7) + 1))) (shF F), 0, 0)) hc163 0 rfl trivial ?_
        refine R_reti hc163 rfl rfl ?_
        first
          | (exfalso; omega; done)
          | exact ⟨(by rw [show (-7) = F 2 by omega]), A, F, rfl, rfl, REL_c hR0⟩
    | 1, hio, c1 =>
      cases hio
      refine R_s (f' := (53, [some (vR 1), some (vI q)], [], LAY (shA A) (shF F), 0, 0)) hc87 0 rfl trivial ?_
      refine R_s (P := True) (f' := (60, [some (vR 1), some (vI q)], [vI (F 3)], LAY (shA A) (shF F), 0, 0)) hc87 3 rfl trivial ?_
      refine R_reti hc87 rfl rfl ⟨⟨_, rfl⟩, ⟨_, _, rfl, rfl⟩, ?_⟩
      refine R_s (P := True) (f' := (3, [some (vR 88), some (vI q), some (vI 0), none], [vI q], LAY (shA A) (shF F), 0, 0)) hc163 3 rfl trivial ?_
      refine R_sw (t := 147) hc163 rfl (by decide) (fun isw o hio (c102 : q = 0 + isw) => ?_) rfl (fun (c102 : q < 0 ∨ 7 < q) => ?_)
      · match isw, hio, c102 with
        | 0, hio, c102 =>
          cases hio
          refine R_s (f' := (48, [some (vR 88), some (vI q), some (vI 0), none], [], LAY (shA A) (shF F), 0, 0)) hc163 0 rfl trivial ?_
          refine R_s (P := True) (f' := (52, [some (vR 88), some (vI q), some (vI 0), none], [vI (F 2)], LAY (shA A) (shF F), 0, 0)) hc163 2 rfl trivial ?_
          refine R_reti hc163 rfl rfl ?_
          first
            | (exfalso; omega; done)
            | exact ⟨(by rw [show F 2 = F 3 by omega]), A, F, rfl, rfl, REL_c hR0⟩
        | 1, hio, c102 =>
          cases hio
          refine R_s (f' := (53, [some (vR 88), some (vI q), some (vI 0), none], [], LAY (shA A) (shF F), 0, 0)) hc163 0 rfl trivial ?_
          refine R_s (P := True) (f' := (57, [some (vR 88), some (vI q), some (vI 0), none], [vI (F 3)], LAY (shA A) (shF F), 0, 0)) hc163 2 rfl trivial ?_
          refine R_reti hc163 rfl rfl ?_
          first
            | (exfalso; omega; done)
            | exact ⟨rfl, A, F, rfl, rfl, REL_c hR0⟩
        | 2, hio, c102 =>
          cases hio
          refine R_s (f' := (58, [some (vR 88), some (vI q), some (vI 0), none], [], LAY (shA A) (shF F), 0, 0)) hc163 0 rfl trivial ?_
          refine R_s (P := True) (f' := (62, [some (vR 88), some (vI q), some (vI 0), none], [vI (F 4)], LAY (shA A) (shF F), 0, 0)) hc163 2 rfl trivial ?_
          refine R_reti hc163 rfl rfl ?_
          first
            | (exfalso; omega; done)
            | exact ⟨(by rw [show F 4 = F 3 by omega]), A, F, rfl, rfl, REL_c hR0⟩
        | 3, hio, c102 =>
          cases hio
          refine R_s (f' := (63, [some (vR 88), some (vI q), some (vI 0), none], [], LAY (shA A) (shF F), 0, 0)) hc163 0 rfl trivial ?_
          refine R_s (P := True) (f' := (67, [some (vR 88), some (vI q), some (vI 0), none], [vI (F 0)], LAY (shA A) (shF F), 0, 0)) hc163 2 rfl trivial ?_
          refine R_reti hc163 rfl rfl ?_
          first
            | (exfalso; omega; done)
            | exact ⟨(by rw [show F 0 = F 3 by omega]), A, F, rfl, rfl, REL_c hR0⟩
        | 4, hio, c102 =>
          cases hio
          refine R_s (f' := (68, [some (vR 88), some (vI q), some (vI 0), none], [], LAY (shA A) (shF F), 0, 0)) hc163 0 rfl trivial ?_
          refine R_s (P := True) (f' := (72, [some (vR 88), some (vI q), some (vI 0), none], [vI (F 5)], LAY (shA A) (shF F), 0, 0)) hc163 2 rfl trivial ?_
          refine R_reti hc163 rfl rfl ?_
          first
            | (exfalso; omega; done)
            | exact ⟨(by rw [show F 5 = F 3 by omega]), A, F, rfl, rfl, REL_c hR0⟩
        | 5, hio, c102 =>
          cases hio
          refine R_s (f' := (73, [some (vR 88), some (vI q), some (vI 0), none], [], LAY (shA A) (shF F), 0, 0)) hc163 0 rfl trivial ?_
          refine R_s (P := True) (f' := (75, [some (vR 88), some (vI q), some (vI 0), some (vI 0)], [], LAY (shA A) (shF F), 0, 0)) hc163 2 rfl trivial ?_
          refine R_mono (count_M5 (A := (shA A)) (F := (shF F)) (n := (F 3).toNat) (R_n hR0) (R_n30 hR0) (hL 4 (by decide)) (hL 5 (by decide)) (hL 6 (by decide)) (hL 94 (by decide)) (R_U (A := A) hR0) (fun p hp => (R_mT (A := A) hR0 p hp).1) (al := N_al A F) (N_al_m (A := A) hR0)) (fun r8 G8 hp8 => ?_)
          obtain ⟨e8, rfl⟩ := hp8
          have e9 : r8 = some (vI (sm (N_al A F) (F 3).toNat)) := e8
          clear e8
          subst e9
          first
            | (exfalso; omega; done)
            | exact ⟨(by rw [show sm (N_al A F) (F 3).toNat = F 3 by omega]), A, F, rfl, rfl, REL_c hR0⟩
        | 6, hio, c102 =>
          cases hio
          refine R_s (f' := (107, [some (vR 88), some (vI q), some (vI 0), none], [], LAY (shA A) (shF F), 0, 0)) hc163 0 rfl trivial ?_
          refine R_s (P := True) (f' := (109, [some (vR 88), some (vI q), some (vI 0), some (vI 0)], [], LAY (shA A) (shF F), 0, 0)) hc163 2 rfl trivial ?_
          refine R_mono (count_M6 (A := (shA A)) (F := (shF F)) ⟨hLE.1.1, hLE.1.2.1⟩ (hL 83 (by decide))) (fun r8 G8 hp8 => ?_)
          obtain ⟨e8, rfl⟩ := hp8
          have e9 : r8 = some (vI (sm (fun i => if rd (A 83) i = 0 then 0 else 1) (F 16).toNat)) := e8
          clear e8
          subst e9
          first
            | (exfalso; omega; done)
            | exact ⟨(by rw [show sm (fun i => if rd (A 83) i = 0 then 0 else 1) (F 16).toNat = F 3 by omega]), A, F, rfl, rfl, REL_c hR0⟩
        | 7, hio, c102 =>
          cases hio
          refine R_s (f' := (142, [some (vR 88), some (vI q), some (vI 0), none], [], LAY (shA A) (shF F), 0, 0)) hc163 0 rfl trivial ?_
          refine R_s (P := True) (f' := (143, [some (vR 88), some (vI q), some (vI 0), none], [vR 88], LAY (shA A) (shF F), 0, 0)) hc163 1 rfl trivial ?_
          refine R_cv hc163 rfl rfl (l_unknowns (A := (shA A)) (F := (shF F)) (LENS_sh hL) ⟨p1, p2⟩) (fun r G9 hp9 => ?_)
          obtain ⟨rfl, rfl⟩ := hp9
          refine R_s (f' := (146, [some (vR 88), some (vI q), some (vI 0), none], [vI (sm (fun i => if rd (A 6) i = 0 then 0 else 1) (F 3).toNat)], LAY (shA A) (shF F), 0, 0)) hc163 0 rfl trivial ?_
          refine R_reti hc163 rfl rfl ?_
          first
            | (exfalso; omega; done)
            | exact ⟨(by rw [show sm (fun i => if rd (A 6) i = 0 then 0 else 1) (F 3).toNat = F 3 by omega]), A, F, rfl, rfl, REL_c hR0⟩
        | isw + 8, hio, c102 => exact absurd hio (by simp)
      · refine R_s (P := True) (f' := (150, [some (vR 88), some (vI q), some (vI 0), none], [vI (-7), vR 88], LAY (shA A) (shF F), 0, 0)) hc163 2 rfl trivial ?_
        refine R_cv hc163 rfl rfl ?_ (fun r G h => h)
        refine R_s (P := inI 7 ∧ (0 ≤ 7 ∧ 7 < ((A 87).length : Int)) ∧ inI ((rd (A 87) 7) + 1) ∧ (0 ≤ 7 ∧ 7 < ((A 87).length : Int)) ∧ True) (f' := (12, [some (vR 88), some (vI (-7))], [vI (-7)], LAY (u (shA A) 89 (wr (A 87) 7 ((rd (A 87) 7) + 1))) (shF F), 0, 0)) hc105 10 rfl ⟨⟨by omega, by omega⟩, ⟨by omega, by omega⟩, ⟨by omega, by omega⟩, ⟨by omega, by omega⟩, trivial⟩ ?_
        refine R_reti hc105 rfl rfl ?_
        refine R_s (f' := (153, [some (vR 88), some (vI q), some (vI 0), none], [vI (-7)], LAY (u (shA A) 89 (wr (A 87) 7 ((rd (A 87) 7) + 1))) (shF F), 0, 0)) hc163 0 rfl trivial ?_
        refine R_reti hc163 rfl rfl ?_
        first
          | (exfalso; omega; done)
          | exact ⟨(by rw [show (-7) = F 3 by omega]), A, F, rfl, rfl, REL_c hR0⟩
    | 2, hio, c1 =>
      cases hio
      refine R_s (f' := (61, [some (vR 1), some (vI q)], [], LAY (shA A) (shF F), 0, 0)) hc87 0 rfl trivial ?_
      refine R_s (P := True) (f' := (68, [some (vR 1), some (vI q)], [vI (F 4)], LAY (shA A) (shF F), 0, 0)) hc87 3 rfl trivial ?_
      refine R_reti hc87 rfl rfl ⟨⟨_, rfl⟩, ⟨_, _, rfl, rfl⟩, ?_⟩
      refine R_s (P := True) (f' := (3, [some (vR 88), some (vI q), some (vI 0), none], [vI q], LAY (shA A) (shF F), 0, 0)) hc163 3 rfl trivial ?_
      refine R_sw (t := 147) hc163 rfl (by decide) (fun isw o hio (c102 : q = 0 + isw) => ?_) rfl (fun (c102 : q < 0 ∨ 7 < q) => ?_)
      · match isw, hio, c102 with
        | 0, hio, c102 =>
          cases hio
          refine R_s (f' := (48, [some (vR 88), some (vI q), some (vI 0), none], [], LAY (shA A) (shF F), 0, 0)) hc163 0 rfl trivial ?_
          refine R_s (P := True) (f' := (52, [some (vR 88), some (vI q), some (vI 0), none], [vI (F 2)], LAY (shA A) (shF F), 0, 0)) hc163 2 rfl trivial ?_
          refine R_reti hc163 rfl rfl ?_
          first
            | (exfalso; omega; done)
            | exact ⟨(by rw [show F 2 = F 4 by omega]), A, F, rfl, rfl, REL_c hR0⟩
        | 1, hio, c102 =>
          cases hio
          refine R_s (f' := (53, [some (vR 88), some (vI q), some (vI 0), none], [], LAY (shA A) (shF F), 0, 0)) hc163 0 rfl trivial ?_
          refine R_s (P := True) (f' := (57, [some (vR 88), some (vI q), some (vI 0), none], [vI (F 3)], LAY (shA A) (shF F), 0, 0)) hc163 2 rfl trivial ?_
          refine R_reti hc163 rfl rfl ?_
          first
            | (exfalso; omega; done)
            | exact ⟨(by rw [show F 3 = F 4 by omega]), A, F, rfl, rfl, REL_c hR0⟩
        | 2, hio, c102 =>
          cases hio
          refine R_s (f' := (58, [some (vR 88), some (vI q), some (vI 0), none], [], LAY (shA A) (shF F), 0, 0)) hc163 0 rfl trivial ?_
          refine R_s (P := True) (f' := (62, [some (vR 88), some (vI q), some (vI 0), none], [vI (F 4)], LAY (shA A) (shF F), 0, 0)) hc163 2 rfl trivial ?_
          refine R_reti hc163 rfl rfl ?_
          first
            | (exfalso; omega; done)
            | exact ⟨rfl, A, F, rfl, rfl, REL_c hR0⟩
        | 3, hio, c102 =>
          cases hio
          refine R_s (f' := (63, [some (vR 88), some (vI q), some (vI 0), none], [], LAY (shA A) (shF F), 0, 0)) hc163 0 rfl trivial ?_
          refine R_s (P := True) (f' := (67, [some (vR 88), some (vI q), some (vI 0), none], [vI (F 0)], LAY (shA A) (shF F), 0, 0)) hc163 2 rfl trivial ?_
          refine R_reti hc163 rfl rfl ?_
          first
            | (exfalso; omega; done)
            | exact ⟨(by rw [show F 0 = F 4 by omega]), A, F, rfl, rfl, REL_c hR0⟩
        | 4, hio, c102 =>
          cases hio
          refine R_s (f' := (68, [some (vR 88), some (vI q), some (vI 0), none], [], LAY (shA A) (shF F), 0, 0)) hc163 0 rfl trivial ?_
          refine R_s (P := True) (f' := (72, [some (vR 88), some (vI q), some (vI 0), none], [vI (F 5)], LAY (shA A) (shF F), 0, 0)) hc163 2 rfl trivial ?_
          refine R_reti hc163 rfl rfl ?_
          first
            | (exfalso; omega; done)
            | exact ⟨(by rw [show F 5 = F 4 by omega]), A, F, rfl, rfl, REL_c hR0⟩
        | 5, hio, c102 =>
          cases hio
          refine R_s (f' := (73, [some (vR 88), some (vI q), some (vI 0), none], [], LAY (shA A) (shF F), 0, 0)) hc163 0 rfl trivial ?_
          refine R_s (P := True) (f' := (75, [some (vR 88), some (vI q), some (vI 0), some (vI 0)], [], LAY (shA A) (shF F), 0, 0)) hc163 2 rfl trivial ?_
          refine R_mono (count_M5 (A := (shA A)) (F := (shF F)) (n := (F 3).toNat) (R_n hR0) (R_n30 hR0) (hL 4 (by decide)) (hL 5 (by decide)) (hL 6 (by decide)) (hL 94 (by decide)) (R_U (A := A) hR0) (fun p hp => (R_mT (A := A) hR0 p hp).1) (al := N_al A F) (N_al_m (A := A) hR0)) (fun r8 G8 hp8 => ?_)
          obtain ⟨e8, rfl⟩ := hp8
          have e9 : r8 = some (vI (sm (N_al A F) (F 3).toNat)) := e8
          clear e8
          subst e9
          first
            | (exfalso; omega; done)
            | exact ⟨(by rw [show sm (N_al A F) (F 3).toNat = F 4 by omega]), A, F, rfl, rfl, REL_c hR0⟩
        | 6, hio, c102 =>
          cases hio
          refine R_s (f' := (107, [some (vR 88), some (vI q), some (vI 0), none], [], LAY (shA A) (shF F), 0, 0)) hc163 0 rfl trivial ?_
          refine R_s (P := True) (f' := (109, [some (vR 88), some (vI q), some (vI 0), some (vI 0)], [], LAY (shA A) (shF F), 0, 0)) hc163 2 rfl trivial ?_
          refine R_mono (count_M6 (A := (shA A)) (F := (shF F)) ⟨hLE.1.1, hLE.1.2.1⟩ (hL 83 (by decide))) (fun r8 G8 hp8 => ?_)
          obtain ⟨e8, rfl⟩ := hp8
          have e9 : r8 = some (vI (sm (fun i => if rd (A 83) i = 0 then 0 else 1) (F 16).toNat)) := e8
          clear e8
          subst e9
          first
            | (exfalso; omega; done)
            | exact ⟨(by rw [show sm (fun i => if rd (A 83) i = 0 then 0 else 1) (F 16).toNat = F 4 by omega]), A, F, rfl, rfl, REL_c hR0⟩
        | 7, hio, c102 =>
          cases hio
          refine R_s (f' := (142, [some (vR 88), some (vI q), some (vI 0), none], [], LAY (shA A) (shF F), 0, 0)) hc163 0 rfl trivial ?_
          refine R_s (P := True) (f' := (143, [some (vR 88), some (vI q), some (vI 0), none], [vR 88], LAY (shA A) (shF F), 0, 0)) hc163 1 rfl trivial ?_
          refine R_cv hc163 rfl rfl (l_unknowns (A := (shA A)) (F := (shF F)) (LENS_sh hL) ⟨p1, p2⟩) (fun r G9 hp9 => ?_)
          obtain ⟨rfl, rfl⟩ := hp9
          refine R_s (f' := (146, [some (vR 88), some (vI q), some (vI 0), none], [vI (sm (fun i => if rd (A 6) i = 0 then 0 else 1) (F 3).toNat)], LAY (shA A) (shF F), 0, 0)) hc163 0 rfl trivial ?_
          refine R_reti hc163 rfl rfl ?_
          first
            | (exfalso; omega; done)
            | exact ⟨(by rw [show sm (fun i => if rd (A 6) i = 0 then 0 else 1) (F 3).toNat = F 4 by omega]), A, F, rfl, rfl, REL_c hR0⟩
        | isw + 8, hio, c102 => exact absurd hio (by simp)
      · refine R_s (P := True) (f' := (150, [some (vR 88), some (vI q), some (vI 0), none], [vI (-7), vR 88], LAY (shA A) (shF F), 0, 0)) hc163 2 rfl trivial ?_
        refine R_cv hc163 rfl rfl ?_ (fun r G h => h)
        refine R_s (P := inI 7 ∧ (0 ≤ 7 ∧ 7 < ((A 87).length : Int)) ∧ inI ((rd (A 87) 7) + 1) ∧ (0 ≤ 7 ∧ 7 < ((A 87).length : Int)) ∧ True) (f' := (12, [some (vR 88), some (vI (-7))], [vI (-7)], LAY (u (shA A) 89 (wr (A 87) 7 ((rd (A 87) 7) + 1))) (shF F), 0, 0)) hc105 10 rfl ⟨⟨by omega, by omega⟩, ⟨by omega, by omega⟩, ⟨by omega, by omega⟩, ⟨by omega, by omega⟩, trivial⟩ ?_
        refine R_reti hc105 rfl rfl ?_
        refine R_s (f' := (153, [some (vR 88), some (vI q), some (vI 0), none], [vI (-7)], LAY (u (shA A) 89 (wr (A 87) 7 ((rd (A 87) 7) + 1))) (shF F), 0, 0)) hc163 0 rfl trivial ?_
        refine R_reti hc163 rfl rfl ?_
        first
          | (exfalso; omega; done)
          | exact ⟨(by rw [show (-7) = F 4 by omega]), A, F, rfl, rfl, REL_c hR0⟩
    | 3, hio, c1 =>
      cases hio
      refine R_s (f' := (69, [some (vR 1), some (vI q)], [], LAY (shA A) (shF F), 0, 0)) hc87 0 rfl trivial ?_
      refine R_s (P := True) (f' := (73, [some (vR 1), some (vI q)], [vI (F 0)], LAY (shA A) (shF F), 0, 0)) hc87 2 rfl trivial ?_
      refine R_reti hc87 rfl rfl ⟨⟨_, rfl⟩, ⟨_, _, rfl, rfl⟩, ?_⟩
      refine R_s (P := True) (f' := (3, [some (vR 88), some (vI q), some (vI 0), none], [vI q], LAY (shA A) (shF F), 0, 0)) hc163 3 rfl trivial ?_
      refine R_sw (t := 147) hc163 rfl (by decide) (fun isw o hio (c102 : q = 0 + isw) => ?_) rfl (fun (c102 : q < 0 ∨ 7 < q) => ?_)
      · match isw, hio, c102 with
        | 0, hio, c102 =>
          cases hio
          refine R_s (f' := (48, [some (vR 88), some (vI q), some (vI 0), none], [], LAY (shA A) (shF F), 0, 0)) hc163 0 rfl trivial ?_
          refine R_s (P := True) (f' := (52, [some (vR 88), some (vI q), some (vI 0), none], [vI (F 2)], LAY (shA A) (shF F), 0, 0)) hc163 2 rfl trivial ?_
          refine R_reti hc163 rfl rfl ?_
          first
            | (exfalso; omega; done)
            | exact ⟨(by rw [show F 2 = F 0 by omega]), A, F, rfl, rfl, REL_c hR0⟩
        | 1, hio, c102 =>
          cases hio
          refine R_s (f' := (53, [some (vR 88), some (vI q), some (vI 0), none], [], LAY (shA A) (shF F), 0, 0)) hc163 0 rfl trivial ?_
          refine R_s (P := True) (f' := (57, [some (vR 88), some (vI q), some (vI 0), none], [vI (F 3)], LAY (shA A) (shF F), 0, 0)) hc163 2 rfl trivial ?_
          refine R_reti hc163 rfl rfl ?_
          first
            | (exfalso; omega; done)
            | exact ⟨(by rw [show F 3 = F 0 by omega]), A, F, rfl, rfl, REL_c hR0⟩
        | 2, hio, c102 =>
          cases hio
          refine R_s (f' := (58, [some (vR 88), some (vI q), some (vI 0), none], [], LAY (shA A) (shF F), 0, 0)) hc163 0 rfl trivial ?_
          refine R_s (P := True) (f' := (62, [some (vR 88), some (vI q), some (vI 0), none], [vI (F 4)], LAY (shA A) (shF F), 0, 0)) hc163 2 rfl trivial ?_
          refine R_reti hc163 rfl rfl ?_
          first
            | (exfalso; omega; done)
            | exact ⟨(by rw [show F 4 = F 0 by omega]), A, F, rfl, rfl, REL_c hR0⟩
        | 3, hio, c102 =>
          cases hio
          refine R_s (f' := (63, [some (vR 88), some (vI q), some (vI 0), none], [], LAY (shA A) (shF F), 0, 0)) hc163 0 rfl trivial ?_
          refine R_s (P := True) (f' := (67, [some (vR 88), some (vI q), some (vI 0), none], [vI (F 0)], LAY (shA A) (shF F), 0, 0)) hc163 2 rfl trivial ?_
          refine R_reti hc163 rfl rfl ?_
          first
            | (exfalso; omega; done)
            | exact ⟨rfl, A, F, rfl, rfl, REL_c hR0⟩
        | 4, hio, c102 =>
          cases hio
          refine R_s (f' := (68, [some (vR 88), some (vI q), some (vI 0), none], [], LAY (shA A) (shF F), 0, 0)) hc163 0 rfl trivial ?_
          refine R_s (P := True) (f' := (72, [some (vR 88), some (vI q), some (vI 0), none], [vI (F 5)], LAY (shA A) (shF F), 0, 0)) hc163 2 rfl trivial ?_
          refine R_reti hc163 rfl rfl ?_
          first
            | (exfalso; omega; done)
            | exact ⟨(by rw [show F 5 = F 0 by omega]), A, F, rfl, rfl, REL_c hR0⟩
        | 5, hio, c102 =>
          cases hio
          refine R_s (f' := (73, [some (vR 88), some (vI q), some (vI 0), none], [], LAY (shA A) (shF F), 0, 0)) hc163 0 rfl trivial ?_
          refine R_s (P := True) (f' := (75, [some (vR 88), some (vI q), some (vI 0), some (vI 0)], [], LAY (shA A) (shF F), 0, 0)) hc163 2 rfl trivial ?_
          refine R_mono (count_M5 (A := (shA A)) (F := (shF F)) (n := (F 3).toNat) (R_n hR0) (R_n30 hR0) (hL 4 (by decide)) (hL 5 (by decide)) (hL 6 (by decide)) (hL 94 (by decide)) (R_U (A := A) hR0) (fun p hp => (R_mT (A := A) hR0 p hp).1) (al := N_al A F) (N_al_m (A := A) hR0)) (fun r8 G8 hp8 => ?_)
          obtain ⟨e8, rfl⟩ := hp8
          have e9 : r8 = some (vI (sm (N_al A F) (F 3).toNat)) := e8
          clear e8
          subst e9
          first
            | (exfalso; omega; done)
            | exact ⟨(by rw [show sm (N_al A F) (F 3).toNat = F 0 by omega]), A, F, rfl, rfl, REL_c hR0⟩
        | 6, hio, c102 =>
          cases hio
          refine R_s (f' := (107, [some (vR 88), some (vI q), some (vI 0), none], [], LAY (shA A) (shF F), 0, 0)) hc163 0 rfl trivial ?_
          refine R_s (P := True) (f' := (109, [some (vR 88), some (vI q), some (vI 0), some (vI 0)], [], LAY (shA A) (shF F), 0, 0)) hc163 2 rfl trivial ?_
          refine R_mono (count_M6 (A := (shA A)) (F := (shF F)) ⟨hLE.1.1, hLE.1.2.1⟩ (hL 83 (by decide))) (fun r8 G8 hp8 => ?_)
          obtain ⟨e8, rfl⟩ := hp8
          have e9 : r8 = some (vI (sm (fun i => if rd (A 83) i = 0 then 0 else 1) (F 16).toNat)) := e8
          clear e8
          subst e9
          first
            | (exfalso; omega; done)
            | exact ⟨(by rw [show sm (fun i => if rd (A 83) i = 0 then 0 else 1) (F 16).toNat = F 0 by omega]), A, F, rfl, rfl, REL_c hR0⟩
        | 7, hio, c102 =>
          cases hio
          refine R_s (f' := (142, [some (vR 88), some (vI q), some (vI 0), none], [], LAY (shA A) (shF F), 0, 0)) hc163 0 rfl trivial ?_
          refine R_s (P := True) (f' := (143, [some (vR 88), some (vI q), some (vI 0), none], [vR 88], LAY (shA A) (shF F), 0, 0)) hc163 1 rfl trivial ?_
          refine R_cv hc163 rfl rfl (l_unknowns (A := (shA A)) (F := (shF F)) (LENS_sh hL) ⟨p1, p2⟩) (fun r G9 hp9 => ?_)
          obtain ⟨rfl, rfl⟩ := hp9
          refine R_s (f' := (146, [some (vR 88), some (vI q), some (vI 0), none], [vI (sm (fun i => if rd (A 6) i = 0 then 0 else 1) (F 3).toNat)], LAY (shA A) (shF F), 0, 0)) hc163 0 rfl trivial ?_
          refine R_reti hc163 rfl rfl ?_
          first
            | (exfalso; omega; done)
            | exact ⟨(by rw [show sm (fun i => if rd (A 6) i = 0 then 0 else 1) (F 3).toNat = F 0 by omega]), A, F, rfl, rfl, REL_c hR0⟩
        | isw + 8, hio, c102 => exact absurd hio (by simp)
      · refine R_s (P := True) (f' := (150, [some (vR 88), some (vI q), some (vI 0), none], [vI (-7), vR 88], LAY (shA A) (shF F), 0, 0)) hc163 2 rfl trivial ?_
        refine R_cv hc163 rfl rfl ?_ (fun r G h => h)
        refine R_s (P := inI 7 ∧ (0 ≤ 7 ∧ 7 < ((A 87).length : Int)) ∧ inI ((rd (A 87) 7) + 1) ∧ (0 ≤ 7 ∧ 7 < ((A 87).length : Int)) ∧ True) (f' := (12, [some (vR 88), some (vI (-7))], [vI (-7)], LAY (u (shA A) 89 (wr (A 87) 7 ((rd (A 87) 7) + 1))) (shF F), 0, 0)) hc105 10 rfl ⟨⟨by omega, by omega⟩, ⟨by omega, by omega⟩, ⟨by omega, by omega⟩, ⟨by omega, by omega⟩, trivial⟩ ?_
        refine R_reti hc105 rfl rfl ?_
        refine R_s (f' := (153, [some (vR 88), some (vI q), some (vI 0), none], [vI (-7)], LAY (u (shA A) 89 (wr (A 87) 7 ((rd (A 87) 7) + 1))) (shF F), 0, 0)) hc163 0 rfl trivial ?_
        refine R_reti hc163 rfl rfl ?_
        first
          | (exfalso; omega; done)
          | exact ⟨(by rw [show (-7) = F 0 by omega]), A, F, rfl, rfl, REL_c hR0⟩
    | 4, hio, c1 =>
      cases hio
      refine R_s (f' := (74, [some (vR 1), some (vI q)], [], LAY (shA A) (shF F), 0, 0)) hc87 0 rfl trivial ?_
      refine R_s (P := True) (f' := (81, [some (vR 1), some (vI q)], [vI (F 5)], LAY (shA A) (shF F), 0, 0)) hc87 3 rfl trivial ?_
      refine R_reti hc87 rfl rfl ⟨⟨_, rfl⟩, ⟨_, _, rfl, rfl⟩, ?_⟩
      refine R_s (P := True) (f' := (3, [some (vR 88), some (vI q), some (vI 0), none], [vI q], LAY (shA A) (shF F), 0, 0)) hc163 3 rfl trivial ?_
      refine R_sw (t := 147) hc163 rfl (by decide) (fun isw o hio (c102 : q = 0 + isw) => ?_) rfl (fun (c102 : q < 0 ∨ 7 < q) => ?_)
      · match isw, hio, c102 with
        | 0, hio, c102 =>
          cases hio
          refine R_s (f' := (48, [some (vR 88), some (vI q), some (vI 0), none], [], LAY (shA A) (shF F), 0, 0)) hc163 0 rfl trivial ?_
          refine R_s (P := True) (f' := (52, [some (vR 88), some (vI q), some (vI 0), none], [vI (F 2)], LAY (shA A) (shF F), 0, 0)) hc163 2 rfl trivial ?_
          refine R_reti hc163 rfl rfl ?_
          first
            | (exfalso; omega; done)
            | exact ⟨(by rw [show F 2 = F 5 by omega]), A, F, rfl, rfl, REL_c hR0⟩
        | 1, hio, c102 =>
          cases hio
          refine R_s (f' := (53, [some (vR 88), some (vI q), some (vI 0), none], [], LAY (shA A) (shF F), 0, 0)) hc163 0 rfl trivial ?_
          refine R_s (P := True) (f' := (57, [some (vR 88), some (vI q), some (vI 0), none], [vI (F 3)], LAY (shA A) (shF F), 0, 0)) hc163 2 rfl trivial ?_
          refine R_reti hc163 rfl rfl ?_
          first
            | (exfalso; omega; done)
            | exact ⟨(by rw [show F 3 = F 5 by omega]), A, F, rfl, rfl, REL_c hR0⟩
        | 2, hio, c102 =>
          cases hio
          refine R_s (f' := (58, [some (vR 88), some (vI q), some (vI 0), none], [], LAY (shA A) (shF F), 0, 0)) hc163 0 rfl trivial ?_
          refine R_s (P := True) (f' := (62, [some (vR 88), some (vI q), some (vI 0), none], [vI (F 4)], LAY (shA A) (shF F), 0, 0)) hc163 2 rfl trivial ?_
          refine R_reti hc163 rfl rfl ?_
          first
            | (exfalso; omega; done)
            | exact ⟨(by rw [show F 4 = F 5 by omega]), A, F, rfl, rfl, REL_c hR0⟩
        | 3, hio, c102 =>
          cases hio
          refine R_s (f' := (63, [some (vR 88), some (vI q), some (vI 0), none], [], LAY (shA A) (shF F), 0, 0)) hc163 0 rfl trivial ?_
          refine R_s (P := True) (f' := (67, [some (vR 88), some (vI q), some (vI 0), none], [vI (F 0)], LAY (shA A) (shF F), 0, 0)) hc163 2 rfl trivial ?_
          refine R_reti hc163 rfl rfl ?_
          first
            | (exfalso; omega; done)
            | exact ⟨(by rw [show F 0 = F 5 by omega]), A, F, rfl, rfl, REL_c hR0⟩
        | 4, hio, c102 =>
          cases hio
          refine R_s (f' := (68, [some (vR 88), some (vI q), some (vI 0), none], [], LAY (shA A) (shF F), 0, 0)) hc163 0 rfl trivial ?_
          refine R_s (P := True) (f' := (72, [some (vR 88), some (vI q), some (vI 0), none], [vI (F 5)], LAY (shA A) (shF F), 0, 0)) hc163 2 rfl trivial ?_
          refine R_reti hc163 rfl rfl ?_
          first
            | (exfalso; omega; done)
            | exact ⟨rfl, A, F, rfl, rfl, REL_c hR0⟩
        | 5, hio, c102 =>
          cases hio
          refine R_s (f' := (73, [some (vR 88), some (vI q), some (vI 0), none], [], LAY (shA A) (shF F), 0, 0)) hc163 0 rfl trivial ?_
          refine R_s (P := True) (f' := (75, [some (vR 88), some (vI q), some (vI 0), some (vI 0)], [], LAY (shA A) (shF F), 0, 0)) hc163 2 rfl trivial ?_
          refine R_mono (count_M5 (A := (shA A)) (F := (shF F)) (n := (F 3).toNat) (R_n hR0) (R_n30 hR0) (hL 4 (by decide)) (hL 5 (by decide)) (hL 6 (by decide)) (hL 94 (by decide)) (R_U (A := A) hR0) (fun p hp => (R_mT (A := A) hR0 p hp).1) (al := N_al A F) (N_al_m (A := A) hR0)) (fun r8 G8 hp8 => ?_)
          obtain ⟨e8, rfl⟩ := hp8
          have e9 : r8 = some (vI (sm (N_al A F) (F 3).toNat)) := e8
          clear e8
          subst e9
          first
            | (exfalso; omega; done)
            | exact ⟨(by rw [show sm (N_al A F) (F 3).toNat = F 5 by omega]), A, F, rfl, rfl, REL_c hR0⟩
        | 6, hio, c102 =>
          cases hio
          refine R_s (f' := (107, [some (vR 88), some (vI q), some (vI 0), none], [], LAY (shA A) (shF F), 0, 0)) hc163 0 rfl trivial ?_
          refine R_s (P := True) (f' := (109, [some (vR 88), some (vI q), some (vI 0), some (vI 0)], [], LAY (shA A) (shF F), 0, 0)) hc163 2 rfl trivial ?_
          refine R_mono (count_M6 (A := (shA A)) (F := (shF F)) ⟨hLE.1.1, hLE.1.2.1⟩ (hL 83 (by decide))) (fun r8 G8 hp8 => ?_)
          obtain ⟨e8, rfl⟩ := hp8
          have e9 : r8 = some (vI (sm (fun i => if rd (A 83) i = 0 then 0 else 1) (F 16).toNat)) := e8
          clear e8
          subst e9
          first
            | (exfalso; omega; done)
            | exact ⟨(by rw [show sm (fun i => if rd (A 83) i = 0 then 0 else 1) (F 16).toNat = F 5 by omega]), A, F, rfl, rfl, REL_c hR0⟩
        | 7, hio, c102 =>
          cases hio
          refine R_s (f' := (142, [some (vR 88), some (vI q), some (vI 0), none], [], LAY (shA A) (shF F), 0, 0)) hc163 0 rfl trivial ?_
          refine R_s (P := True) (f' := (143, [some (vR 88), some (vI q), some (vI 0), none], [vR 88], LAY (shA A) (shF F), 0, 0)) hc163 1 rfl trivial ?_
          refine R_cv hc163 rfl rfl (l_unknowns (A := (shA A)) (F := (shF F)) (LENS_sh hL) ⟨p1, p2⟩) (fun r G9 hp9 => ?_)
          obtain ⟨rfl, rfl⟩ := hp9
          refine R_s (f' := (146, [some (vR 88), some (vI q), some (vI 0), none], [vI (sm (fun i => if rd (A 6) i = 0 then 0 else 1) (F 3).toNat)], LAY (shA A) (shF F), 0, 0)) hc163 0 rfl trivial ?_
          refine R_reti hc163 rfl rfl ?_
          first
            | (exfalso; omega; done)
            | exact ⟨(by rw [show sm (fun i => if rd (A 6) i = 0 then 0 else 1) (F 3).toNat = F 5 by omega]), A, F, rfl, rfl, REL_c hR0⟩
        | isw + 8, hio, c102 => exact absurd hio (by simp)
      · refine R_s (P := True) (f' := (150, [some (vR 88), some (vI q), some (vI 0), none], [vI (-7), vR 88], LAY (shA A) (shF F), 0, 0)) hc163 2 rfl trivial ?_
        refine R_cv hc163 rfl rfl ?_ (fun r G h => h)
        refine R_s (P := inI 7 ∧ (0 ≤ 7 ∧ 7 < ((A 87).length : Int)) ∧ inI ((rd (A 87) 7) + 1) ∧ (0 ≤ 7 ∧ 7 < ((A 87).length : Int)) ∧ True) (f' := (12, [some (vR 88), some (vI (-7))], [vI (-7)], LAY (u (shA A) 89 (wr (A 87) 7 ((rd (A 87) 7) + 1))) (shF F), 0, 0)) hc105 10 rfl ⟨⟨by omega, by omega⟩, ⟨by omega, by omega⟩, ⟨by omega, by omega⟩, ⟨by omega, by omega⟩, trivial⟩ ?_
        refine R_reti hc105 rfl rfl ?_
        refine R_s (f' := (153, [some (vR 88), some (vI q), some (vI 0), none], [vI (-7)], LAY (u (shA A) 89 (wr (A 87) 7 ((rd (A 87) 7) + 1))) (shF F), 0, 0)) hc163 0 rfl trivial ?_
        refine R_reti hc163 rfl rfl ?_
        first
          | (exfalso; omega; done)
          | exact ⟨(by rw [show (-7) = F 5 by omega]), A, F, rfl, rfl, REL_c hR0⟩
    | 5, hio, c1 =>
      cases hio
      refine R_s (f' := (82, [some (vR 1), some (vI q)], [], LAY (shA A) (shF F), 0, 0)) hc87 0 rfl trivial ?_
      refine R_s (P := True) (f' := (91, [some (vR 1), some (vI q)], [vI (-1), vI (F 2), vR 2], LAY (shA A) (shF F), 0, 0)) hc87 5 rfl trivial ?_
      refine R_cv hc87 rfl rfl (l_wakeT (A := shA A) (F := shF F) (n := (F 3).toNat) (al := N_al A F) (LENS_sh hL) (R_n hR0) (R_n30 hR0) (R_TR (A := A) hR0) (R_U (A := A) hR0) (R_T (A := A) hR0) (fun p _ => rfl)) (fun r G9 hp9 => ?_)
      obtain ⟨rfl, l8, l9, l10, rfl, k8, k9, k10, hw⟩ := hp9
      refine R_s (f' := (94, [some (vR 1), some (vI q)], [], LAY (u (u (u (shA A) 8 l8) 9 l9) 10 l10) (shF F), 0, 0)) hc87 0 rfl trivial ?_
      refine R_s (P := True) (f' := (98, [some (vR 1), some (vI q)], [vR 2], LAY (u (u (u (shA A) 8 l8) 9 l9) 10 l10) (shF F), 0, 0)) hc87 2 rfl trivial ?_
      refine R_cv hc87 rfl rfl (l_aliveCount (A := (u (u (u (shA A) 8 l8) 9 l9) 10 l10)) (F := (shF F)) (LENS_u (LENS_u (LENS_u (LENS_sh hL) (by show (l8).length = (A 8).length; rw [k8, hL 8 (by decide)]; rfl)) (by show (l9).length = (A 9).length; rw [k9, hL 9 (by decide)]; rfl)) (by show (l10).length = (A 10).length; rw [k10, hL 10 (by decide)]; rfl)) ⟨p1, p2⟩) (fun r G9 hp9 => ?_)
      obtain ⟨e1, rfl⟩ := hp9
      have e2 : sm (fun i : Nat => if rd l8 i = 0 then 0 else 1) (F 3).toNat = sm (N_al A F) (F 3).toNat := sm_congr _ (fun i hi => by
        have z1 := (hw i hi).1
        have z2 := N_al_01 (A := A) hR0 i hi
        rw [z1]
        split <;> omega)
      have e3 : r = some (vI (sm (N_al A F) (F 3).toNat)) := by
        rw [← e2]
        exact e1
      clear e1
      subst e3
      refine R_s (f' := (101, [some (vR 1), some (vI q)], [vI (sm (N_al A F) (F 3).toNat)], LAY (u (u (u (shA A) 8 l8) 9 l9) 10 l10) (shF F), 0, 0)) hc87 0 rfl trivial ?_
      refine R_reti hc87 rfl rfl ⟨⟨_, rfl⟩, ⟨_, _, rfl, rfl⟩, ?_⟩
      refine R_s (P := True) (f' := (3, [some (vR 88), some (vI q), some (vI 0), none], [vI q], LAY (u (u (u (shA A) 8 l8) 9 l9) 10 l10) (shF F), 0, 0)) hc163 3 rfl trivial ?_
      refine R_sw (t := 147) hc163 rfl (by decide) (fun isw o hio (c102 : q = 0 + isw) => ?_) rfl (fun (c102 : q < 0 ∨ 7 < q) => ?_)
      · match isw, hio, c102 with
        | 0, hio, c102 =>
          cases hio
          refine R_s (f' := (48, [some (vR 88), some (vI q), some (vI 0), none], [], LAY (u (u (u (shA A) 8 l8) 9 l9) 10 l10) (shF F), 0, 0)) hc163 0 rfl trivial ?_
          refine R_s (P := True) (f' := (52, [some (vR 88), some (vI q), some (vI 0), none], [vI (F 2)], LAY (u (u (u (shA A) 8 l8) 9 l9) 10 l10) (shF F), 0, 0)) hc163 2 rfl trivial ?_
          refine R_reti hc163 rfl rfl ?_
          first
            | (exfalso; omega; done)
            | exact ⟨(by rw [show F 2 = sm (N_al A F) (F 3).toNat by omega]), (u (u (u A 8 l8) 9 l9) 10 l10), F, rfl, rfl, ⟨(LENS_u (LENS_u (LENS_u hL (by show (l8).length = (A 8).length; rw [k8, hL 8 (by decide)]; rfl)) (by show (l9).length = (A 9).length; rw [k9, hL 9 (by decide)]; rfl)) (by show (l10).length = (A 10).length; rw [k10, hL 10 (by decide)]; rfl)), hR0.2.1, hR0.2.2.1, hR0.2.2.2.1, hR0.2.2.2.2.1, hR0.2.2.2.2.2.1, hR0.2.2.2.2.2.2.1, hR0.2.2.2.2.2.2.2.1, hR0.2.2.2.2.2.2.2.2.1, (REFU_c hR0.2.2.2.2.2.2.2.2.2)⟩⟩
        | 1, hio, c102 =>
          cases hio
          refine R_s (f' := (53, [some (vR 88), some (vI q), some (vI 0), none], [], LAY (u (u (u (shA A) 8 l8) 9 l9) 10 l10) (shF F), 0, 0)) hc163 0 rfl trivial ?_
          refine R_s (P := True) (f' := (57, [some (vR 88), some (vI q), some (vI 0), none], [vI (F 3)], LAY (u (u (u (shA A) 8 l8) 9 l9) 10 l10) (shF F), 0, 0)) hc163 2 rfl trivial ?_
          refine R_reti hc163 rfl rfl ?_
          first
            | (exfalso; omega; done)
            | exact ⟨(by rw [show F 3 = sm (N_al A F) (F 3).toNat by omega]), (u (u (u A 8 l8) 9 l9) 10 l10), F, rfl, rfl, ⟨(LENS_u (LENS_u (LENS_u hL (by show (l8).length = (A 8).length; rw [k8, hL 8 (by decide)]; rfl)) (by show (l9).length = (A 9).length; rw [k9, hL 9 (by decide)]; rfl)) (by show (l10).length = (A 10).length; rw [k10, hL 10 (by decide)]; rfl)), hR0.2.1, hR0.2.2.1, hR0.2.2.2.1, hR0.2.2.2.2.1, hR0.2.2.2.2.2.1, hR0.2.2.2.2.2.2.1, hR0.2.2.2.2.2.2.2.1, hR0.2.2.2.2.2.2.2.2.1, (REFU_c hR0.2.2.2.2.2.2.2.2.2)⟩⟩
        | 2, hio, c102 =>
          cases hio
          refine R_s (f' := (58, [some (vR 88), some (vI q), some (vI 0), none], [], LAY (u (u (u (shA A) 8 l8) 9 l9) 10 l10) (shF F), 0, 0)) hc163 0 rfl trivial ?_
          refine R_s (P := True) (f' := (62, [some (vR 88), some (vI q), some (vI 0), none], [vI (F 4)], LAY (u (u (u (shA A) 8 l8) 9 l9) 10 l10) (shF F), 0, 0)) hc163 2 rfl trivial ?_
          refine R_reti hc163 rfl rfl ?_
          first
            | (exfalso; omega; done)
            | exact ⟨(by rw [show F 4 = sm (N_al A F) (F 3).toNat by omega]), (u (u (u A 8 l8) 9 l9) 10 l10), F, rfl, rfl, ⟨(LENS_u (LENS_u (LENS_u hL (by show (l8).length = (A 8).length; rw [k8, hL 8 (by decide)]; rfl)) (by show (l9).length = (A 9).length; rw [k9, hL 9 (by decide)]; rfl)) (by show (l10).length = (A 10).length; rw [k10, hL 10 (by decide)]; rfl)), hR0.2.1, hR0.2.2.1, hR0.2.2.2.1, hR0.2.2.2.2.1, hR0.2.2.2.2.2.1, hR0.2.2.2.2.2.2.1, hR0.2.2.2.2.2.2.2.1, hR0.2.2.2.2.2.2.2.2.1, (REFU_c hR0.2.2.2.2.2.2.2.2.2)⟩⟩
        | 3, hio, c102 =>
          cases hio
          refine R_s (f' := (63, [some (vR 88), some (vI q), some (vI 0), none], [], LAY (u (u (u (shA A) 8 l8) 9 l9) 10 l10) (shF F), 0, 0)) hc163 0 rfl trivial ?_
          refine R_s (P := True) (f' := (67, [some (vR 88), some (vI q), some (vI 0), none], [vI (F 0)], LAY (u (u (u (shA A) 8 l8) 9 l9) 10 l10) (shF F), 0, 0)) hc163 2 rfl trivial ?_
          refine R_reti hc163 rfl rfl ?_
          first
            | (exfalso; omega; done)
            | exact ⟨(by rw [show F 0 = sm (N_al A F) (F 3).toNat by omega]), (u (u (u A 8 l8) 9 l9) 10 l10), F, rfl, rfl, ⟨(LENS_u (LENS_u (LENS_u hL (by show (l8).length = (A 8).length; rw [k8, hL 8 (by decide)]; rfl)) (by show (l9).length = (A 9).length; rw [k9, hL 9 (by decide)]; rfl)) (by show (l10).length = (A 10).length; rw [k10, hL 10 (by decide)]; rfl)), hR0.2.1, hR0.2.2.1, hR0.2.2.2.1, hR0.2.2.2.2.1, hR0.2.2.2.2.2.1, hR0.2.2.2.2.2.2.1, hR0.2.2.2.2.2.2.2.1, hR0.2.2.2.2.2.2.2.2.1, (REFU_c hR0.2.2.2.2.2.2.2.2.2)⟩⟩
        | 4, hio, c102 =>
          cases hio
          refine R_s (f' := (68, [some (vR 88), some (vI q), some (vI 0), none], [], LAY (u (u (u (shA A) 8 l8) 9 l9) 10 l10) (shF F), 0, 0)) hc163 0 rfl trivial ?_
          refine R_s (P := True) (f' := (72, [some (vR 88), some (vI q), some (vI 0), none], [vI (F 5)], LAY (u (u (u (shA A) 8 l8) 9 l9) 10 l10) (shF F), 0, 0)) hc163 2 rfl trivial ?_
          refine R_reti hc163 rfl rfl ?_
          first
            | (exfalso; omega; done)
            | exact ⟨(by rw [show F 5 = sm (N_al A F) (F 3).toNat by omega]), (u (u (u A 8 l8) 9 l9) 10 l10), F, rfl, rfl, ⟨(LENS_u (LENS_u (LENS_u hL (by show (l8).length = (A 8).length; rw [k8, hL 8 (by decide)]; rfl)) (by show (l9).length = (A 9).length; rw [k9, hL 9 (by decide)]; rfl)) (by show (l10).length = (A 10).length; rw [k10, hL 10 (by decide)]; rfl)), hR0.2.1, hR0.2.2.1, hR0.2.2.2.1, hR0.2.2.2.2.1, hR0.2.2.2.2.2.1, hR0.2.2.2.2.2.2.1, hR0.2.2.2.2.2.2.2.1, hR0.2.2.2.2.2.2.2.2.1, (REFU_c hR0.2.2.2.2.2.2.2.2.2)⟩⟩
        | 5, hio, c102 =>
          cases hio
          refine R_s (f' := (73, [some (vR 88), some (vI q), some (vI 0), none], [], LAY (u (u (u (shA A) 8 l8) 9 l9) 10 l10) (shF F), 0, 0)) hc163 0 rfl trivial ?_
          refine R_s (P := True) (f' := (75, [some (vR 88), some (vI q), some (vI 0), some (vI 0)], [], LAY (u (u (u (shA A) 8 l8) 9 l9) 10 l10) (shF F), 0, 0)) hc163 2 rfl trivial ?_
          refine R_mono (count_M5 (A := (u (u (u (shA A) 8 l8) 9 l9) 10 l10)) (F := (shF F)) (n := (F 3).toNat) (R_n hR0) (R_n30 hR0) (hL 4 (by decide)) (hL 5 (by decide)) (hL 6 (by decide)) (hL 94 (by decide)) (R_U (A := A) hR0) (fun p hp => (R_mT (A := A) hR0 p hp).1) (al := N_al A F) (N_al_m (A := A) hR0)) (fun r8 G8 hp8 => ?_)
          obtain ⟨e8, rfl⟩ := hp8
          have e9 : r8 = some (vI (sm (N_al A F) (F 3).toNat)) := e8
          clear e8
          subst e9
          first
            | (exfalso; omega; done)
            | exact ⟨rfl, (u (u (u A 8 l8) 9 l9) 10 l10), F, rfl, rfl, ⟨(LENS_u (LENS_u (LENS_u hL (by show (l8).length = (A 8).length; rw [k8, hL 8 (by decide)]; rfl)) (by show (l9).length = (A 9).length; rw [k9, hL 9 (by decide)]; rfl)) (by show (l10).length = (A 10).length; rw [k10, hL 10 (by decide)]; rfl)), hR0.2.1, hR0.2.2.1, hR0.2.2.2.1, hR0.2.2.2.2.1, hR0.2.2.2.2.2.1, hR0.2.2.2.2.2.2.1, hR0.2.2.2.2.2.2.2.1, hR0.2.2.2.2.2.2.2.2.1, (REFU_c hR0.2.2.2.2.2.2.2.2.2)⟩⟩
        | 6, hio, c102 =>
          cases hio
          refine R_s (f' := (107, [some (vR 88), some (vI q), some (vI 0), none], [], LAY (u (u (u (shA A) 8 l8) 9 l9) 10 l10) (shF F), 0, 0)) hc163 0 rfl trivial ?_
          refine R_s (P := True) (f' := (109, [some (vR 88), some (vI q), some (vI 0), some (vI 0)], [], LAY (u (u (u (shA A) 8 l8) 9 l9) 10 l10) (shF F), 0, 0)) hc163 2 rfl trivial ?_
          refine R_mono (count_M6 (A := (u (u (u (shA A) 8 l8) 9 l9) 10 l10)) (F := (shF F)) ⟨hLE.1.1, hLE.1.2.1⟩ (hL 83 (by decide))) (fun r8 G8 hp8 => ?_)
          obtain ⟨e8, rfl⟩ := hp8
          have e9 : r8 = some (vI (sm (fun i => if rd (A 83) i = 0 then 0 else 1) (F 16).toNat)) := e8
          clear e8
          subst e9
          first
            | (exfalso; omega; done)
            | exact ⟨(by rw [show sm (fun i => if rd (A 83) i = 0 then 0 else 1) (F 16).toNat = sm (N_al A F) (F 3).toNat by omega]), (u (u (u A 8 l8) 9 l9) 10 l10), F, rfl, rfl, ⟨(LENS_u (LENS_u (LENS_u hL (by show (l8).length = (A 8).length; rw [k8, hL 8 (by decide)]; rfl)) (by show (l9).length = (A 9).length; rw [k9, hL 9 (by decide)]; rfl)) (by show (l10).length = (A 10).length; rw [k10, hL 10 (by decide)]; rfl)), hR0.2.1, hR0.2.2.1, hR0.2.2.2.1, hR0.2.2.2.2.1, hR0.2.2.2.2.2.1, hR0.2.2.2.2.2.2.1, hR0.2.2.2.2.2.2.2.1, hR0.2.2.2.2.2.2.2.2.1, (REFU_c hR0.2.2.2.2.2.2.2.2.2)⟩⟩
        | 7, hio, c102 =>
          cases hio
          refine R_s (f' := (142, [some (vR 88), some (vI q), some (vI 0), none], [], LAY (u (u (u (shA A) 8 l8) 9 l9) 10 l10) (shF F), 0, 0)) hc163 0 rfl trivial ?_
          refine R_s (P := True) (f' := (143, [some (vR 88), some (vI q), some (vI 0), none], [vR 88], LAY (u (u (u (shA A) 8 l8) 9 l9) 10 l10) (shF F), 0, 0)) hc163 1 rfl trivial ?_
          refine R_cv hc163 rfl rfl (l_unknowns (A := (u (u (u (shA A) 8 l8) 9 l9) 10 l10)) (F := (shF F)) (LENS_u (LENS_u (LENS_u (LENS_sh hL) (by show (l8).length = (A 8).length; rw [k8, hL 8 (by decide)]; rfl)) (by show (l9).length = (A 9).length; rw [k9, hL 9 (by decide)]; rfl)) (by show (l10).length = (A 10).length; rw [k10, hL 10 (by decide)]; rfl)) ⟨p1, p2⟩) (fun r G9 hp9 => ?_)
          obtain ⟨rfl, rfl⟩ := hp9
          refine R_s (f' := (146, [some (vR 88), some (vI q), some (vI 0), none], [vI (sm (fun i => if rd (A 6) i = 0 then 0 else 1) (F 3).toNat)], LAY (u (u (u (shA A) 8 l8) 9 l9) 10 l10) (shF F), 0, 0)) hc163 0 rfl trivial ?_
          refine R_reti hc163 rfl rfl ?_
          first
            | (exfalso; omega; done)
            | exact ⟨(by rw [show sm (fun i => if rd (A 6) i = 0 then 0 else 1) (F 3).toNat = sm (N_al A F) (F 3).toNat by omega]), (u (u (u A 8 l8) 9 l9) 10 l10), F, rfl, rfl, ⟨(LENS_u (LENS_u (LENS_u hL (by show (l8).length = (A 8).length; rw [k8, hL 8 (by decide)]; rfl)) (by show (l9).length = (A 9).length; rw [k9, hL 9 (by decide)]; rfl)) (by show (l10).length = (A 10).length; rw [k10, hL 10 (by decide)]; rfl)), hR0.2.1, hR0.2.2.1, hR0.2.2.2.1, hR0.2.2.2.2.1, hR0.2.2.2.2.2.1, hR0.2.2.2.2.2.2.1, hR0.2.2.2.2.2.2.2.1, hR0.2.2.2.2.2.2.2.2.1, (REFU_c hR0.2.2.2.2.2.2.2.2.2)⟩⟩
        | isw + 8, hio, c102 => exact absurd hio (by simp)
      · refine R_s (P := True) (f' := (150, [some (vR 88), some (vI q), some (vI 0), none], [vI (-7), vR 88], LAY (u (u (u (shA A) 8 l8) 9 l9) 10 l10) (shF F), 0, 0)) hc163 2 rfl trivial ?_
        refine R_cv hc163 rfl rfl ?_ (fun r G h => h)
        refine R_s (P := inI 7 ∧ (0 ≤ 7 ∧ 7 < ((A 87).length : Int)) ∧ inI ((rd (A 87) 7) + 1) ∧ (0 ≤ 7 ∧ 7 < ((A 87).length : Int)) ∧ True) (f' := (12, [some (vR 88), some (vI (-7))], [vI (-7)], LAY (u (u (u (u (shA A) 8 l8) 9 l9) 10 l10) 89 (wr (A 87) 7 ((rd (A 87) 7) + 1))) (shF F), 0, 0)) hc105 10 rfl ⟨⟨by omega, by omega⟩, ⟨by omega, by omega⟩, ⟨by omega, by omega⟩, ⟨by omega, by omega⟩, trivial⟩ ?_
        refine R_reti hc105 rfl rfl ?_
        refine R_s (f' := (153, [some (vR 88), some (vI q), some (vI 0), none], [vI (-7)], LAY (u (u (u (u (shA A) 8 l8) 9 l9) 10 l10) 89 (wr (A 87) 7 ((rd (A 87) 7) + 1))) (shF F), 0, 0)) hc163 0 rfl trivial ?_
        refine R_reti hc163 rfl rfl ?_
        first
          | (exfalso; omega; done)
          | exact ⟨(by rw [show (-7) = sm (N_al A F) (F 3).toNat by omega]), (u (u (u A 8 l8) 9 l9) 10 l10), F, rfl, rfl, ⟨(LENS_u (LENS_u (LENS_u hL (by show (l8).length = (A 8).length; rw [k8, hL 8 (by decide)]; rfl)) (by show (l9).length = (A 9).length; rw [k9, hL 9 (by decide)]; rfl)) (by show (l10).length = (A 10).length; rw [k10, hL 10 (by decide)]; rfl)), hR0.2.1, hR0.2.2.1, hR0.2.2.2.1, hR0.2.2.2.2.1, hR0.2.2.2.2.2.1, hR0.2.2.2.2.2.2.1, hR0.2.2.2.2.2.2.2.1, hR0.2.2.2.2.2.2.2.2.1, (REFU_c hR0.2.2.2.2.2.2.2.2.2)⟩⟩
    | 6, hio, c1 =>
      cases hio
      refine R_s (f' := (102, [some (vR 1), some (vI q)], [], LAY (shA A) (shF F), 0, 0)) hc87 0 rfl trivial ?_
      refine R_s (P := True) (f' := (106, [some (vR 1), some (vI q)], [vR 79], LAY (shA A) (shF F), 0, 0)) hc87 2 rfl trivial ?_
      refine R_cv hc87 rfl rfl (l_holding (A := (shA A)) (F := (shF F)) (LENS_sh hL) ⟨hLE.1.1, hLE.1.2.1⟩) (fun r G9 hp9 => ?_)
      obtain ⟨rfl, rfl⟩ := hp9
      refine R_s (f' := (109, [some (vR 1), some (vI q)], [vI (sm (fun i => if rd (A 83) i = 0 then 0 else 1) (F 16).toNat)], LAY (shA A) (shF F), 0, 0)) hc87 0 rfl trivial ?_
      refine R_reti hc87 rfl rfl ⟨⟨_, rfl⟩, ⟨_, _, rfl, rfl⟩, ?_⟩
      refine R_s (P := True) (f' := (3, [some (vR 88), some (vI q), some (vI 0), none], [vI q], LAY (shA A) (shF F), 0, 0)) hc163 3 rfl trivial ?_
      refine R_sw (t := 147) hc163 rfl (by decide) (fun isw o hio (c102 : q = 0 + isw) => ?_) rfl (fun (c102 : q < 0 ∨ 7 < q) => ?_)
      · match isw, hio, c102 with
        | 0, hio, c102 =>
          cases hio
          refine R_s (f' := (48, [some (vR 88), some (vI q), some (vI 0), none], [], LAY (shA A) (shF F), 0, 0)) hc163 0 rfl trivial ?_
          refine R_s (P := True) (f' := (52, [some (vR 88), some (vI q), some (vI 0), none], [vI (F 2)], LAY (shA A) (shF F), 0, 0)) hc163 2 rfl trivial ?_
          refine R_reti hc163 rfl rfl ?_
          first
            | (exfalso; omega; done)
            | exact ⟨(by rw [show F 2 = sm (fun i => if rd (A 83) i = 0 then 0 else 1) (F 16).toNat by omega]), A, F, rfl, rfl, REL_c hR0⟩
        | 1, hio, c102 =>
          cases hio
          refine R_s (f' := (53, [some (vR 88), some (vI q), some (vI 0), none], [], LAY (shA A) (shF F), 0, 0)) hc163 0 rfl trivial ?_
          refine R_s (P := True) (f' := (57, [some (vR 88), some (vI q), some (vI 0), none], [vI (F 3)], LAY (shA A) (shF F), 0, 0)) hc163 2 rfl trivial ?_
          refine R_reti hc163 rfl rfl ?_
          first
            | (exfalso; omega; done)
            | exact ⟨(by rw [show F 3 = sm (fun i => if rd (A 83) i = 0 then 0 else 1) (F 16).toNat by omega]), A, F, rfl, rfl, REL_c hR0⟩
        | 2, hio, c102 =>
          cases hio
          refine R_s (f' := (58, [some (vR 88), some (vI q), some (vI 0), none], [], LAY (shA A) (shF F), 0, 0)) hc163 0 rfl trivial ?_
          refine R_s (P := True) (f' := (62, [some (vR 88), some (vI q), some (vI 0), none], [vI (F 4)], LAY (shA A) (shF F), 0, 0)) hc163 2 rfl trivial ?_
          refine R_reti hc163 rfl rfl ?_
          first
            | (exfalso; omega; done)
            | exact ⟨(by rw [show F 4 = sm (fun i => if rd (A 83) i = 0 then 0 else 1) (F 16).toNat by omega]), A, F, rfl, rfl, REL_c hR0⟩
        | 3, hio, c102 =>
          cases hio
          refine R_s (f' := (63, [some (vR 88), some (vI q), some (vI 0), none], [], LAY (shA A) (shF F), 0, 0)) hc163 0 rfl trivial ?_
          refine R_s (P := True) (f' := (67, [some (vR 88), some (vI q), some (vI 0), none], [vI (F 0)], LAY (shA A) (shF F), 0, 0)) hc163 2 rfl trivial ?_
          refine R_reti hc163 rfl rfl ?_
          first
            | (exfalso; omega; done)
            | exact ⟨(by rw [show F 0 = sm (fun i => if rd (A 83) i = 0 then 0 else 1) (F 16).toNat by omega]), A, F, rfl, rfl, REL_c hR0⟩
        | 4, hio, c102 =>
          cases hio
          refine R_s (f' := (68, [some (vR 88), some (vI q), some (vI 0), none], [], LAY (shA A) (shF F), 0, 0)) hc163 0 rfl trivial ?_
          refine R_s (P := True) (f' := (72, [some (vR 88), some (vI q), some (vI 0), none], [vI (F 5)], LAY (shA A) (shF F), 0, 0)) hc163 2 rfl trivial ?_
          refine R_reti hc163 rfl rfl ?_
          first
            | (exfalso; omega; done)
            | exact ⟨(by rw [show F 5 = sm (fun i => if rd (A 83) i = 0 then 0 else 1) (F 16).toNat by omega]), A, F, rfl, rfl, REL_c hR0⟩
        | 5, hio, c102 =>
          cases hio
          refine R_s (f' := (73, [some (vR 88), some (vI q), some (vI 0), none], [], LAY (shA A) (shF F), 0, 0)) hc163 0 rfl trivial ?_
          refine R_s (P := True) (f' := (75, [some (vR 88), some (vI q), some (vI 0), some (vI 0)], [], LAY (shA A) (shF F), 0, 0)) hc163 2 rfl trivial ?_
          refine R_mono (count_M5 (A := (shA A)) (F := (shF F)) (n := (F 3).toNat) (R_n hR0) (R_n30 hR0) (hL 4 (by decide)) (hL 5 (by decide)) (hL 6 (by decide)) (hL 94 (by decide)) (R_U (A := A) hR0) (fun p hp => (R_mT (A := A) hR0 p hp).1) (al := N_al A F) (N_al_m (A := A) hR0)) (fun r8 G8 hp8 => ?_)
          obtain ⟨e8, rfl⟩ := hp8
          have e9 : r8 = some (vI (sm (N_al A F) (F 3).toNat)) := e8
          clear e8
          subst e9
          first
            | (exfalso; omega; done)
            | exact ⟨(by rw [show sm (N_al A F) (F 3).toNat = sm (fun i => if rd (A 83) i = 0 then 0 else 1) (F 16).toNat by omega]), A, F, rfl, rfl, REL_c hR0⟩
        | 6, hio, c102 =>
          cases hio
          refine R_s (f' := (107, [some (vR 88), some (vI q), some (vI 0), none], [], LAY (shA A) (shF F), 0, 0)) hc163 0 rfl trivial ?_
          refine R_s (P := True) (f' := (109, [some (vR 88), some (vI q), some (vI 0), some (vI 0)], [], LAY (shA A) (shF F), 0, 0)) hc163 2 rfl trivial ?_
          refine R_mono (count_M6 (A := (shA A)) (F := (shF F)) ⟨hLE.1.1, hLE.1.2.1⟩ (hL 83 (by decide))) (fun r8 G8 hp8 => ?_)
          obtain ⟨e8, rfl⟩ := hp8
          have e9 : r8 = some (vI (sm (fun i => if rd (A 83) i = 0 then 0 else 1) (F 16).toNat)) := e8
          clear e8
          subst e9
          first
            | (exfalso; omega; done)
            | exact ⟨rfl, A, F, rfl, rfl, REL_c hR0⟩
        | 7, hio, c102 =>
          cases hio
          refine R_s (f' := (142, [some (vR 88), some (vI q), some (vI 0), none], [], LAY (shA A) (shF F), 0, 0)) hc163 0 rfl trivial ?_
          refine R_s (P := True) (f' := (143, [some (vR 88), some (vI q), some (vI 0), none], [vR 88], LAY (shA A) (shF F), 0, 0)) hc163 1 rfl trivial ?_
          refine R_cv hc163 rfl rfl (l_unknowns (A := (shA A)) (F := (shF F)) (LENS_sh hL) ⟨p1, p2⟩) (fun r G9 hp9 => ?_)
          obtain ⟨rfl, rfl⟩ := hp9
          refine R_s (f' := (146, [some (vR 88), some (vI q), some (vI 0), none], [vI (sm (fun i => if rd (A 6) i = 0 then 0 else 1) (F 3).toNat)], LAY (shA A) (shF F), 0, 0)) hc163 0 rfl trivial ?_
          refine R_reti hc163 rfl rfl ?_
          first
            | (exfalso; omega; done)
            | exact ⟨(by rw [show sm (fun i => if rd (A 6) i = 0 then 0 else 1) (F 3).toNat = sm (fun i => if rd (A 83) i = 0 then 0 else 1) (F 16).toNat by omega]), A, F, rfl, rfl, REL_c hR0⟩
        | isw + 8, hio, c102 => exact absurd hio (by simp)
      · refine R_s (P := True) (f' := (150, [some (vR 88), some (vI q), some (vI 0), none], [vI (-7), vR 88], LAY (shA A) (shF F), 0, 0)) hc163 2 rfl trivial ?_
        refine R_cv hc163 rfl rfl ?_ (fun r G h => h)
        refine R_s (P := inI 7 ∧ (0 ≤ 7 ∧ 7 < ((A 87).length : Int)) ∧ inI ((rd (A 87) 7) + 1) ∧ (0 ≤ 7 ∧ 7 < ((A 87).length : Int)) ∧ True) (f' := (12, [some (vR 88), some (vI (-7))], [vI (-7)], LAY (u (shA A) 89 (wr (A 87) 7 ((rd (A 87) 7) + 1))) (shF F), 0, 0)) hc105 10 rfl ⟨⟨by omega, by omega⟩, ⟨by omega, by omega⟩, ⟨by omega, by omega⟩, ⟨by omega, by omega⟩, trivial⟩ ?_
        refine R_reti hc105 rfl rfl ?_
        refine R_s (f' := (153, [some (vR 88), some (vI q), some (vI 0), none], [vI (-7)], LAY (u (shA A) 89 (wr (A 87) 7 ((rd (A 87) 7) + 1))) (shF F), 0, 0)) hc163 0 rfl trivial ?_
        refine R_reti hc163 rfl rfl ?_
        first
          | (exfalso; omega; done)
          | exact ⟨(by rw [show (-7) = sm (fun i => if rd (A 83) i = 0 then 0 else 1) (F 16).toNat by omega]), A, F, rfl, rfl, REL_c hR0⟩
    | 7, hio, c1 =>
      cases hio
      refine R_s (f' := (110, [some (vR 1), some (vI q)], [], LAY (shA A) (shF F), 0, 0)) hc87 0 rfl trivial ?_
      refine R_s (P := True) (f' := (114, [some (vR 1), some (vI q)], [vR 2], LAY (shA A) (shF F), 0, 0)) hc87 2 rfl trivial ?_
      refine R_cv hc87 rfl rfl (l_unsure (A := (shA A)) (F := (shF F)) (LENS_sh hL) ⟨p1, p2⟩) (fun r G9 hp9 => ?_)
      obtain ⟨rfl, rfl⟩ := hp9
      refine R_s (f' := (117, [some (vR 1), some (vI q)], [vI (sm (fun i => if rd (A 6) i = 0 then 0 else 1) (F 3).toNat)], LAY (shA A) (shF F), 0, 0)) hc87 0 rfl trivial ?_
      refine R_reti hc87 rfl rfl ⟨⟨_, rfl⟩, ⟨_, _, rfl, rfl⟩, ?_⟩
      refine R_s (P := True) (f' := (3, [some (vR 88), some (vI q), some (vI 0), none], [vI q], LAY (shA A) (shF F), 0, 0)) hc163 3 rfl trivial ?_
      refine R_sw (t := 147) hc163 rfl (by decide) (fun isw o hio (c102 : q = 0 + isw) => ?_) rfl (fun (c102 : q < 0 ∨ 7 < q) => ?_)
      · match isw, hio, c102 with
        | 0, hio, c102 =>
          cases hio
          refine R_s (f' := (48, [some (vR 88), some (vI q), some (vI 0), none], [], LAY (shA A) (shF F), 0, 0)) hc163 0 rfl trivial ?_
          refine R_s (P := True) (f' := (52, [some (vR 88), some (vI q), some (vI 0), none], [vI (F 2)], LAY (shA A) (shF F), 0, 0)) hc163 2 rfl trivial ?_
          refine R_reti hc163 rfl rfl ?_
          first
            | (exfalso; omega; done)
            | exact ⟨(by rw [show F 2 = sm (fun i => if rd (A 6) i = 0 then 0 else 1) (F 3).toNat by omega]), A, F, rfl, rfl, REL_c hR0⟩
        | 1, hio, c102 =>
          cases hio
          refine R_s (f' := (53, [some (vR 88), some (vI q), some (vI 0), none], [], LAY (shA A) (shF F), 0, 0)) hc163 0 rfl trivial ?_
          refine R_s (P := True) (f' := (57, [some (vR 88), some (vI q), some (vI 0), none], [vI (F 3)], LAY (shA A) (shF F), 0, 0)) hc163 2 rfl trivial ?_
          refine R_reti hc163 rfl rfl ?_
          first
            | (exfalso; omega; done)
            | exact ⟨(by rw [show F 3 = sm (fun i => if rd (A 6) i = 0 then 0 else 1) (F 3).toNat by omega]), A, F, rfl, rfl, REL_c hR0⟩
        | 2, hio, c102 =>
          cases hio
          refine R_s (f' := (58, [some (vR 88), some (vI q), some (vI 0), none], [], LAY (shA A) (shF F), 0, 0)) hc163 0 rfl trivial ?_
          refine R_s (P := True) (f' := (62, [some (vR 88), some (vI q), some (vI 0), none], [vI (F 4)], LAY (shA A) (shF F), 0, 0)) hc163 2 rfl trivial ?_
          refine R_reti hc163 rfl rfl ?_
          first
            | (exfalso; omega; done)
            | exact ⟨(by rw [show F 4 = sm (fun i => if rd (A 6) i = 0 then 0 else 1) (F 3).toNat by omega]), A, F, rfl, rfl, REL_c hR0⟩
        | 3, hio, c102 =>
          cases hio
          refine R_s (f' := (63, [some (vR 88), some (vI q), some (vI 0), none], [], LAY (shA A) (shF F), 0, 0)) hc163 0 rfl trivial ?_
          refine R_s (P := True) (f' := (67, [some (vR 88), some (vI q), some (vI 0), none], [vI (F 0)], LAY (shA A) (shF F), 0, 0)) hc163 2 rfl trivial ?_
          refine R_reti hc163 rfl rfl ?_
          first
            | (exfalso; omega; done)
            | exact ⟨(by rw [show F 0 = sm (fun i => if rd (A 6) i = 0 then 0 else 1) (F 3).toNat by omega]), A, F, rfl, rfl, REL_c hR0⟩
        | 4, hio, c102 =>
          cases hio
          refine R_s (f' := (68, [some (vR 88), some (vI q), some (vI 0), none], [], LAY (shA A) (shF F), 0, 0)) hc163 0 rfl trivial ?_
          refine R_s (P := True) (f' := (72, [some (vR 88), some (vI q), some (vI 0), none], [vI (F 5)], LAY (shA A) (shF F), 0, 0)) hc163 2 rfl trivial ?_
          refine R_reti hc163 rfl rfl ?_
          first
            | (exfalso; omega; done)
            | exact ⟨(by rw [show F 5 = sm (fun i => if rd (A 6) i = 0 then 0 else 1) (F 3).toNat by omega]), A, F, rfl, rfl, REL_c hR0⟩
        | 5, hio, c102 =>
          cases hio
          refine R_s (f' := (73, [some (vR 88), some (vI q), some (vI 0), none], [], LAY (shA A) (shF F), 0, 0)) hc163 0 rfl trivial ?_
          refine R_s (P := True) (f' := (75, [some (vR 88), some (vI q), some (vI 0), some (vI 0)], [], LAY (shA A) (shF F), 0, 0)) hc163 2 rfl trivial ?_
          refine R_mono (count_M5 (A := (shA A)) (F := (shF F)) (n := (F 3).toNat) (R_n hR0) (R_n30 hR0) (hL 4 (by decide)) (hL 5 (by decide)) (hL 6 (by decide)) (hL 94 (by decide)) (R_U (A := A) hR0) (fun p hp => (R_mT (A := A) hR0 p hp).1) (al := N_al A F) (N_al_m (A := A) hR0)) (fun r8 G8 hp8 => ?_)
          obtain ⟨e8, rfl⟩ := hp8
          have e9 : r8 = some (vI (sm (N_al A F) (F 3).toNat)) := e8
          clear e8
          subst e9
          first
            | (exfalso; omega; done)
            | exact ⟨(by rw [show sm (N_al A F) (F 3).toNat = sm (fun i => if rd (A 6) i = 0 then 0 else 1) (F 3).toNat by omega]), A, F, rfl, rfl, REL_c hR0⟩
        | 6, hio, c102 =>
          cases hio
          refine R_s (f' := (107, [some (vR 88), some (vI q), some (vI 0), none], [], LAY (shA A) (shF F), 0, 0)) hc163 0 rfl trivial ?_
          refine R_s (P := True) (f' := (109, [some (vR 88), some (vI q), some (vI 0), some (vI 0)], [], LAY (shA A) (shF F), 0, 0)) hc163 2 rfl trivial ?_
          refine R_mono (count_M6 (A := (shA A)) (F := (shF F)) ⟨hLE.1.1, hLE.1.2.1⟩ (hL 83 (by decide))) (fun r8 G8 hp8 => ?_)
          obtain ⟨e8, rfl⟩ := hp8
          have e9 : r8 = some (vI (sm (fun i => if rd (A 83) i = 0 then 0 else 1) (F 16).toNat)) := e8
          clear e8
          subst e9
          first
            | (exfalso; omega; done)
            | exact ⟨(by rw [show sm (fun i => if rd (A 83) i = 0 then 0 else 1) (F 16).toNat = sm (fun i => if rd (A 6) i = 0 then 0 else 1) (F 3).toNat by omega]), A, F, rfl, rfl, REL_c hR0⟩
        | 7, hio, c102 =>
          cases hio
          refine R_s (f' := (142, [some (vR 88), some (vI q), some (vI 0), none], [], LAY (shA A) (shF F), 0, 0)) hc163 0 rfl trivial ?_
          refine R_s (P := True) (f' := (143, [some (vR 88), some (vI q), some (vI 0), none], [vR 88], LAY (shA A) (shF F), 0, 0)) hc163 1 rfl trivial ?_
          refine R_cv hc163 rfl rfl (l_unknowns (A := (shA A)) (F := (shF F)) (LENS_sh hL) ⟨p1, p2⟩) (fun r G9 hp9 => ?_)
          obtain ⟨rfl, rfl⟩ := hp9
          refine R_s (f' := (146, [some (vR 88), some (vI q), some (vI 0), none], [vI (sm (fun i => if rd (A 6) i = 0 then 0 else 1) (F 3).toNat)], LAY (shA A) (shF F), 0, 0)) hc163 0 rfl trivial ?_
          refine R_reti hc163 rfl rfl ?_
          first
            | (exfalso; omega; done)
            | exact ⟨rfl, A, F, rfl, rfl, REL_c hR0⟩
        | isw + 8, hio, c102 => exact absurd hio (by simp)
      · refine R_s (P := True) (f' := (150, [some (vR 88), some (vI q), some (vI 0), none], [vI (-7), vR 88], LAY (shA A) (shF F), 0, 0)) hc163 2 rfl trivial ?_
        refine R_cv hc163 rfl rfl ?_ (fun r G h => h)
        refine R_s (P := inI 7 ∧ (0 ≤ 7 ∧ 7 < ((A 87).length : Int)) ∧ inI ((rd (A 87) 7) + 1) ∧ (0 ≤ 7 ∧ 7 < ((A 87).length : Int)) ∧ True) (f' := (12, [some (vR 88), some (vI (-7))], [vI (-7)], LAY (u (shA A) 89 (wr (A 87) 7 ((rd (A 87) 7) + 1))) (shF F), 0, 0)) hc105 10 rfl ⟨⟨by omega, by omega⟩, ⟨by omega, by omega⟩, ⟨by omega, by omega⟩, ⟨by omega, by omega⟩, trivial⟩ ?_
        refine R_reti hc105 rfl rfl ?_
        refine R_s (f' := (153, [some (vR 88), some (vI q), some (vI 0), none], [vI (-7)], LAY (u (shA A) 89 (wr (A 87) 7 ((rd (A 87) 7) + 1))) (shF F), 0, 0)) hc163 0 rfl trivial ?_
        refine R_reti hc163 rfl rfl ?_
        first
          | (exfalso; omega; done)
          | exact ⟨(by rw [show (-7) = sm (fun i => if rd (A 6) i = 0 then 0 else 1) (F 3).toNat by omega]), A, F, rfl, rfl, REL_c hR0⟩
    | isw + 8, hio, c1 => exact absurd hio (by simp)
  · refine R_s (P := True) (f' := (121, [some (vR 1), some (vI q)], [vI (-7), vR 1], LAY (shA A) (shF F), 0, 0)) hc87 2 rfl trivial ?_
    refine R_cv hc87 rfl rfl ?_ (fun r G h => h)
    refine R_s (P := True) (f' := (3, [some (vR 1), some (vI (-7))], [vI (-2), vI (-7)], LAY (shA A) (shF F), 0, 0)) hc93 2 rfl trivial ?_
    refine R_ic (t := 23) hc93 rfl rfl (fun (z : (-2) < (-7)) => absurd z (by decide)) (fun (_ : ¬ ((-2) < (-7))) => ?_)
    refine R_s (P := True) (f' := (9, [some (vR 1), some (vI (-7))], [vI (-8), vI (-7)], LAY (shA A) (shF F), 0, 0)) hc93 2 rfl trivial ?_
    refine R_ic (t := 23) hc93 rfl rfl (fun (z : (-7) < (-8)) => absurd z (by decide)) (fun (_ : ¬ ((-7) < (-8))) => ?_)
    refine R_s (P := inI 7 ∧ (0 ≤ 7 ∧ 7 < ((A 87).length : Int)) ∧ inI ((rd (A 87) 7) + 1) ∧ (0 ≤ 7 ∧ 7 < ((A 87).length : Int)) ∧ True) (f' := (24, [some (vR 1), some (vI (-7))], [vI (-7)], LAY (u (shA A) 87 (wr (A 87) 7 ((rd (A 87) 7) + 1))) (shF F), 0, 0)) hc93 10 rfl ⟨⟨by omega, by omega⟩, ⟨by omega, by omega⟩, ⟨by omega, by omega⟩, ⟨by omega, by omega⟩, trivial⟩ ?_
    refine R_reti hc93 rfl rfl ?_
    refine R_s (f' := (124, [some (vR 1), some (vI q)], [vI (-7)], LAY (u (shA A) 87 (wr (A 87) 7 ((rd (A 87) 7) + 1))) (shF F), 0, 0)) hc87 0 rfl trivial ?_
    refine R_reti hc87 rfl rfl ⟨⟨_, rfl⟩, ⟨_, _, rfl, rfl⟩, ?_⟩
    refine R_s (P := True) (f' := (3, [some (vR 88), some (vI q), some (vI 0), none], [vI q], LAY (u (shA A) 87 (wr (A 87) 7 ((rd (A 87) 7) + 1))) (shF F), 0, 0)) hc163 3 rfl trivial ?_
    refine R_sw (t := 147) hc163 rfl (by decide) (fun isw o hio (c104 : q = 0 + isw) => ?_) rfl (fun (c104 : q < 0 ∨ 7 < q) => ?_)
    · match isw, hio, c104 with
      | 0, hio, c104 =>
        cases hio
        refine R_s (f' := (48, [some (vR 88), some (vI q), some (vI 0), none], [], LAY (u (shA A) 87 (wr (A 87) 7 ((rd (A 87) 7) + 1))) (shF F), 0, 0)) hc163 0 rfl trivial ?_
        refine R_s (P := True) (f' := (52, [some (vR 88), some (vI q), some (vI 0), none], [vI (F 2)], LAY (u (shA A) 87 (wr (A 87) 7 ((rd (A 87) 7) + 1))) (shF F), 0, 0)) hc163 2 rfl trivial ?_
        refine R_reti hc163 rfl rfl ?_
        first
          | (exfalso; omega; done)
          | exact ⟨(by rw [show F 2 = (-7) by omega]), (u A 87 (wr (A 87) 7 ((rd (A 87) 7) + 1))), F, rfl, rfl, REL_ref hR0 (by decide) (by decide)⟩
      | 1, hio, c104 =>
        cases hio
        refine R_s (f' := (53, [some (vR 88), some (vI q), some (vI 0), none], [], LAY (u (shA A) 87 (wr (A 87) 7 ((rd (A 87) 7) + 1))) (shF F), 0, 0)) hc163 0 rfl trivial ?_
        refine R_s (P := True) (f' := (57, [some (vR 88), some (vI q), some (vI 0), none], [vI (F 3)], LAY (u (shA A) 87 (wr (A 87) 7 ((rd (A 87) 7) + 1))) (shF F), 0, 0)) hc163 2 rfl trivial ?_
        refine R_reti hc163 rfl rfl ?_
        first
          | (exfalso; omega; done)
          | exact ⟨(by rw [show F 3 = (-7) by omega]), (u A 87 (wr (A 87) 7 ((rd (A 87) 7) + 1))), F, rfl, rfl, REL_ref hR0 (by decide) (by decide)⟩
      | 2, hio, c104 =>
        cases hio
        refine R_s (f' := (58, [some (vR 88), some (vI q), some (vI 0), none], [], LAY (u (shA A) 87 (wr (A 87) 7 ((rd (A 87) 7) + 1))) (shF F), 0, 0)) hc163 0 rfl trivial ?_
        refine R_s (P := True) (f' := (62, [some (vR 88), some (vI q), some (vI 0), none], [vI (F 4)], LAY (u (shA A) 87 (wr (A 87) 7 ((rd (A 87) 7) + 1))) (shF F), 0, 0)) hc163 2 rfl trivial ?_
        refine R_reti hc163 rfl rfl ?_
        first
          | (exfalso; omega; done)
          | exact ⟨(by rw [show F 4 = (-7) by omega]), (u A 87 (wr (A 87) 7 ((rd (A 87) 7) + 1))), F, rfl, rfl, REL_ref hR0 (by decide) (by decide)⟩
      | 3, hio, c104 =>
        cases hio
        refine R_s (f' := (63, [some (vR 88), some (vI q), some (vI 0), none], [], LAY (u (shA A) 87 (wr (A 87) 7 ((rd (A 87) 7) + 1))) (shF F), 0, 0)) hc163 0 rfl trivial ?_
        refine R_s (P := True) (f' := (67, [some (vR 88), some (vI q), some (vI 0), none], [vI (F 0)], LAY (u (shA A) 87 (wr (A 87) 7 ((rd (A 87) 7) + 1))) (shF F), 0, 0)) hc163 2 rfl trivial ?_
        refine R_reti hc163 rfl rfl ?_
        first
          | (exfalso; omega; done)
          | exact ⟨(by rw [show F 0 = (-7) by omega]), (u A 87 (wr (A 87) 7 ((rd (A 87) 7) + 1))), F, rfl, rfl, REL_ref hR0 (by decide) (by decide)⟩
      | 4, hio, c104 =>
        cases hio
        refine R_s (f' := (68, [some (vR 88), some (vI q), some (vI 0), none], [], LAY (u (shA A) 87 (wr (A 87) 7 ((rd (A 87) 7) + 1))) (shF F), 0, 0)) hc163 0 rfl trivial ?_
        refine R_s (P := True) (f' := (72, [some (vR 88), some (vI q), some (vI 0), none], [vI (F 5)], LAY (u (shA A) 87 (wr (A 87) 7 ((rd (A 87) 7) + 1))) (shF F), 0, 0)) hc163 2 rfl trivial ?_
        refine R_reti hc163 rfl rfl ?_
        first
          | (exfalso; omega; done)
          | exact ⟨(by rw [show F 5 = (-7) by omega]), (u A 87 (wr (A 87) 7 ((rd (A 87) 7) + 1))), F, rfl, rfl, REL_ref hR0 (by decide) (by decide)⟩
      | 5, hio, c104 =>
        cases hio
        refine R_s (f' := (73, [some (vR 88), some (vI q), some (vI 0), none], [], LAY (u (shA A) 87 (wr (A 87) 7 ((rd (A 87) 7) + 1))) (shF F), 0, 0)) hc163 0 rfl trivial ?_
        refine R_s (P := True) (f' := (75, [some (vR 88), some (vI q), some (vI 0), some (vI 0)], [], LAY (u (shA A) 87 (wr (A 87) 7 ((rd (A 87) 7) + 1))) (shF F), 0, 0)) hc163 2 rfl trivial ?_
        refine R_mono (count_M5 (A := (u (shA A) 87 (wr (A 87) 7 ((rd (A 87) 7) + 1)))) (F := (shF F)) (n := (F 3).toNat) (R_n hR0) (R_n30 hR0) (hL 4 (by decide)) (hL 5 (by decide)) (hL 6 (by decide)) (hL 94 (by decide)) (R_U (A := A) hR0) (fun p hp => (R_mT (A := A) hR0 p hp).1) (al := N_al A F) (N_al_m (A := A) hR0)) (fun r8 G8 hp8 => ?_)
        obtain ⟨e8, rfl⟩ := hp8
        have e9 : r8 = some (vI (sm (N_al A F) (F 3).toNat)) := e8
        clear e8
        subst e9
        first
          | (exfalso; omega; done)
          | exact ⟨(by rw [show sm (N_al A F) (F 3).toNat = (-7) by omega]), (u A 87 (wr (A 87) 7 ((rd (A 87) 7) + 1))), F, rfl, rfl, REL_ref hR0 (by decide) (by decide)⟩
      | 6, hio, c104 =>
        cases hio
        refine R_s (f' := (107, [some (vR 88), some (vI q), some (vI 0), none], [], LAY (u (shA A) 87 (wr (A 87) 7 ((rd (A 87) 7) + 1))) (shF F), 0, 0)) hc163 0 rfl trivial ?_
        refine R_s (P := True) (f' := (109, [some (vR 88), some (vI q), some (vI 0), some (vI 0)], [], LAY (u (shA A) 87 (wr (A 87) 7 ((rd (A 87) 7) + 1))) (shF F), 0, 0)) hc163 2 rfl trivial ?_
        refine R_mono (count_M6 (A := (u (shA A) 87 (wr (A 87) 7 ((rd (A 87) 7) + 1)))) (F := (shF F)) ⟨hLE.1.1, hLE.1.2.1⟩ (hL 83 (by decide))) (fun r8 G8 hp8 => ?_)
        obtain ⟨e8, rfl⟩ := hp8
        have e9 : r8 = some (vI (sm (fun i => if rd (A 83) i = 0 then 0 else 1) (F 16).toNat)) := e8
        clear e8
        subst e9
        first
          | (exfalso; omega; done)
          | exact ⟨(by rw [show sm (fun i => if rd (A 83) i = 0 then 0 else 1) (F 16).toNat = (-7) by omega]), (u A 87 (wr (A 87) 7 ((rd (A 87) 7) + 1))), F, rfl, rfl, REL_ref hR0 (by decide) (by decide)⟩
      | 7, hio, c104 =>
        cases hio
        refine R_s (f' := (142, [some (vR 88), some (vI q), some (vI 0), none], [], LAY (u (shA A) 87 (wr (A 87) 7 ((rd (A 87) 7) + 1))) (shF F), 0, 0)) hc163 0 rfl trivial ?_
        refine R_s (P := True) (f' := (143, [some (vR 88), some (vI q), some (vI 0), none], [vR 88], LAY (u (shA A) 87 (wr (A 87) 7 ((rd (A 87) 7) + 1))) (shF F), 0, 0)) hc163 1 rfl trivial ?_
        refine R_cv hc163 rfl rfl (l_unknowns (A := (u (shA A) 87 (wr (A 87) 7 ((rd (A 87) 7) + 1)))) (F := (shF F)) (LENS_u (LENS_sh hL) (by show (wr (A 87) 7 ((rd (A 87) 7) + 1)).length = (A 87).length; simp only [wr_len])) ⟨p1, p2⟩) (fun r G9 hp9 => ?_)
        obtain ⟨rfl, rfl⟩ := hp9
        refine R_s (f' := (146, [some (vR 88), some (vI q), some (vI 0), none], [vI (sm (fun i => if rd (A 6) i = 0 then 0 else 1) (F 3).toNat)], LAY (u (shA A) 87 (wr (A 87) 7 ((rd (A 87) 7) + 1))) (shF F), 0, 0)) hc163 0 rfl trivial ?_
        refine R_reti hc163 rfl rfl ?_
        first
          | (exfalso; omega; done)
          | exact ⟨(by rw [show sm (fun i => if rd (A 6) i = 0 then 0 else 1) (F 3).toNat = (-7) by omega]), (u A 87 (wr (A 87) 7 ((rd (A 87) 7) + 1))), F, rfl, rfl, REL_ref hR0 (by decide) (by decide)⟩
      | isw + 8, hio, c104 => exact absurd hio (by simp)
    · refine R_s (P := True) (f' := (150, [some (vR 88), some (vI q), some (vI 0), none], [vI (-7), vR 88], LAY (u (shA A) 87 (wr (A 87) 7 ((rd (A 87) 7) + 1))) (shF F), 0, 0)) hc163 2 rfl trivial ?_
      refine R_cv hc163 rfl rfl ?_ (fun r G h => h)
      refine R_s (P := inI 7 ∧ (0 ≤ 7 ∧ 7 < ((A 87).length : Int)) ∧ inI ((rd (A 87) 7) + 1) ∧ (0 ≤ 7 ∧ 7 < ((A 87).length : Int)) ∧ True) (f' := (12, [some (vR 88), some (vI (-7))], [vI (-7)], LAY (u (u (shA A) 87 (wr (A 87) 7 ((rd (A 87) 7) + 1))) 89 (wr (A 87) 7 ((rd (A 87) 7) + 1))) (shF F), 0, 0)) hc105 10 rfl ⟨⟨by omega, by omega⟩, ⟨by omega, by omega⟩, ⟨by omega, by omega⟩, ⟨by omega, by omega⟩, trivial⟩ ?_
      refine R_reti hc105 rfl rfl ?_
      refine R_s (f' := (153, [some (vR 88), some (vI q), some (vI 0), none], [vI (-7)], LAY (u (u (shA A) 87 (wr (A 87) 7 ((rd (A 87) 7) + 1))) 89 (wr (A 87) 7 ((rd (A 87) 7) + 1))) (shF F), 0, 0)) hc163 0 rfl trivial ?_
      refine R_reti hc163 rfl rfl ?_
      first
        | (exfalso; omega; done)
        | exact ⟨rfl, (u A 87 (wr (A 87) 7 ((rd (A 87) 7) + 1))), F, rfl, rfl, REL_ref hR0 (by decide) (by decide)⟩

theorem op_yields_n {c : Int} {A : Nat → List Int} {F : Nat → Int} (hR : REL c A F) (hc : c < 512) (d : Int) (i_d : inI d) (hd : d < 0) : R 74 (0, L0 74 [vR 1, vI d], [], LAY (shA A) (shF F), 0, 0) (fun r G => (∃ x, r = some (vI x)) ∧ (∃ (A1 : Nat → List Int) (F1 : Nat → Int), G = LAY A1 F1 ∧ A1 0 = A 0) ∧ R 148 (0, L0 148 [vR 88, vI d], [], G, 0, 0) (fun r2 G2 => r2 = r ∧ ∃ (A' : Nat → List Int) (F' : Nat → Int), G2 = LAY (shA A') (shF F') ∧ A' 0 = A 0 ∧ REL (c + 1) A' F')) := by
  have hR0 := hR
  obtain ⟨hL, hPE, hTH, hTP, hDE, hLE, hNO, hAC, hRO, hRE⟩ := hR
  have j_d := i_d
  unfold inI at j_d
  have h87 : (A 87).length = 9 := hL 87 (by decide)
  have r2 := REFU_at hRE (k := 2) (by decide) (by decide) hc
  have r3 := REFU_at hRE (k := 3) (by decide) (by decide) hc
  have r4 := REFU_at hRE (k := 4) (by decide) (by decide) hc
  have r5 := REFU_at hRE (k := 5) (by decide) (by decide) hc
  have r6 := REFU_at hRE (k := 6) (by decide) (by decide) hc
  have r7 := REFU_at hRE (k := 7) (by decide) (by decide) hc
  have r8 := REFU_at hRE (k := 8) (by decide) (by decide) hc
  obtain ⟨t1, t2, t3, t4, t5, t6⟩ := hTH
  obtain ⟨p1, p2, p3, p4, p5, p6⟩ := hPE
  refine R_s (P := True) (f' := (2, [some (vR 1), some (vI d)], [vI d, vR 1], LAY (shA A) (shF F), 0, 0)) hc74 2 rfl trivial ?_
  refine R_cv hc74 rfl rfl ?_ (fun r G h => h)
  refine R_s (P := True) (f' := (1, [some (vR 1), some (vI d)], [vI d], LAY (shA A) (shF F), 0, 0)) hc98 1 rfl trivial ?_
  refine R_if (t := 16) hc98 rfl rfl (fun (_ : d < 0) => ?_) (fun (z : ¬ (d < 0)) => absurd (show d < 0 by omega) z)
  refine R_s (P := True) (f' := (17, [some (vR 1), some (vI d)], [vI 0], LAY (shA A) (shF F), 0, 0)) hc98 1 rfl trivial ?_
  refine R_retz hc98 rfl rfl (Or.inl rfl) ?_
  refine R_s (f' := (5, [some (vR 1), some (vI d)], [vI 0], LAY (shA A) (shF F), 0, 0)) hc74 0 rfl trivial ?_
  refine R_if (t := 15) hc74 rfl rfl (fun (z : ¬ 0 = 0) => absurd z (by decide)) (fun (_ : ¬ (¬ 0 = 0)) => ?_)
  refine R_s (P := True) (f' := (11, [some (vR 1), some (vI d)], [vI (-3), vR 1], LAY (shA A) (shF F), 0, 0)) hc74 2 rfl trivial ?_
  refine R_cv hc74 rfl rfl ?_ (fun r G h => h)
  refine R_s (P := True) (f' := (3, [some (vR 1), some (vI (-3))], [vI (-2), vI (-3)], LAY (shA A) (shF F), 0, 0)) hc93 2 rfl trivial ?_
  refine R_ic (t := 23) hc93 rfl rfl (fun (z : (-2) < (-3)) => absurd z (by decide)) (fun (_ : ¬ ((-2) < (-3))) => ?_)
  refine R_s (P := True) (f' := (9, [some (vR 1), some (vI (-3))], [vI (-8), vI (-3)], LAY (shA A) (shF F), 0, 0)) hc93 2 rfl trivial ?_
  refine R_ic (t := 23) hc93 rfl rfl (fun (z : (-3) < (-8)) => absurd z (by decide)) (fun (_ : ¬ ((-3) < (-8))) => ?_)
  refine R_s (P := inI 3 ∧ (0 ≤ 3 ∧ 3 < ((A 87).length : Int)) ∧ inI ((rd (A 87) 3) + 1) ∧ (0 ≤ 3 ∧ 3 < ((A 87).length : Int)) ∧ True) (f' := (24, [some (vR 1), some (vI (-3))], [vI (-3)], LAY (u (shA A) 87 (wr (A 87) 3 ((rd (A 87) 3) + 1))) (shF F), 0, 0)) hc93 10 rfl ⟨⟨by omega, by omega⟩, ⟨by omega, by omega⟩, ⟨by omega, by omega⟩, ⟨by omega, by omega⟩, trivial⟩ ?_
  refine R_reti hc93 rfl rfl ?_
  refine R_s (f' := (14, [some (vR 1), some (vI d)], [vI (-3)], LAY (u (shA A) 87 (wr (A 87) 3 ((rd (A 87) 3) + 1))) (shF F), 0, 0)) hc74 0 rfl trivial ?_
  refine R_reti hc74 rfl rfl ⟨⟨_, rfl⟩, ⟨_, _, rfl, rfl⟩, ?_⟩
  refine R_s (P := True) (f' := (2, [some (vR 88), some (vI d)], [vI d, vR 88], LAY (u (shA A) 87 (wr (A 87) 3 ((rd (A 87) 3) + 1))) (shF F), 0, 0)) hc148 2 rfl trivial ?_
  refine R_cv hc148 rfl rfl ?_ (fun r G h => h)
  refine R_s (P := inI ((F 0) - 1) ∧ True) (f' := (8, [some (vR 88), some (vI d)], [vI ((F 0) - 1), vI 0, vI d], LAY (u (shA A) 87 (wr (A 87) 3 ((rd (A 87) 3) + 1))) (shF F), 0, 0)) hc108 6 rfl ⟨⟨by omega, by omega⟩, trivial⟩ ?_
  refine R_cs hc108 rfl rfl ?_ (fun r G h => h)
  refine R_s (P := True) (f' := (2, [some (vI d), some (vI 0), some (vI ((F 0) - 1))], [vI 0, vI d], LAY (u (shA A) 87 (wr (A 87) 3 ((rd (A 87) 3) + 1))) (shF F), 0, 0)) hc104 2 rfl trivial ?_
  refine R_ic (t := 14) hc104 rfl rfl (fun (_ : d < 0) => ?_) (fun (z : ¬ (d < 0)) => absurd (show d < 0 by omega) z)
  refine R_s (P := True) (f' := (15, [some (vI d), some (vI 0), some (vI ((F 0) - 1))], [vI 0], LAY (u (shA A) 87 (wr (A 87) 3 ((rd (A 87) 3) + 1))) (shF F), 0, 0)) hc104 1 rfl trivial ?_
  refine R_retz hc104 rfl rfl (Or.inl rfl) ?_
  refine R_s (f' := (11, [some (vR 88), some (vI d)], [vI 0], LAY (u (shA A) 87 (wr (A 87) 3 ((rd (A 87) 3) + 1))) (shF F), 0, 0)) hc108 0 rfl trivial ?_
  refine R_retz hc108 rfl rfl (Or.inl rfl) ?_
  refine R_s (f' := (5, [some (vR 88), some (vI d)], [vI 0], LAY (u (shA A) 87 (wr (A 87) 3 ((rd (A 87) 3) + 1))) (shF F), 0, 0)) hc148 0 rfl trivial ?_
  refine R_if (t := 16) hc148 rfl rfl (fun (_ : 0 = 0) => ?_) (fun (z : ¬ (0 = 0)) => absurd (by decide) z)
  refine R_s (P := True) (f' := (19, [some (vR 88), some (vI d)], [vI (-3), vR 88], LAY (u (shA A) 87 (wr (A 87) 3 ((rd (A 87) 3) + 1))) (shF F), 0, 0)) hc148 2 rfl trivial ?_
  refine R_cv hc148 rfl rfl ?_ (fun r G h => h)
  refine R_s (P := inI 3 ∧ (0 ≤ 3 ∧ 3 < ((A 87).length : Int)) ∧ inI ((rd (A 87) 3) + 1) ∧ (0 ≤ 3 ∧ 3 < ((A 87).length : Int)) ∧ True) (f' := (12, [some (vR 88), some (vI (-3))], [vI (-3)], LAY (u (u (shA A) 87 (wr (A 87) 3 ((rd (A 87) 3) + 1))) 89 (wr (A 87) 3 ((rd (A 87) 3) + 1))) (shF F), 0, 0)) hc105 10 rfl ⟨⟨by omega, by omega⟩, ⟨by omega, by omega⟩, ⟨by omega, by omega⟩, ⟨by omega, by omega⟩, trivial⟩ ?_
  refine R_reti hc105 rfl rfl ?_
  refine R_s (f' := (22, [some (vR 88), some (vI d)], [vI (-3)], LAY (u (u (shA A) 87 (wr (A 87) 3 ((rd (A 87) 3) + 1))) 89 (wr (A 87) 3 ((rd (A 87) 3) + 1))) (shF F), 0, 0)) hc148 0 rfl trivial ?_
  refine R_reti hc148 rfl rfl ?_
  first
    | (exfalso; omega; done)
    | exact ⟨rfl, (u A 87 (wr (A 87) 3 ((rd (A 87) 3) + 1))), F, rfl, rfl, REL_ref hR0 (by decide) (by decide)⟩

theorem op_yields_b {c : Int} {A : Nat → List Int} {F : Nat → Int} (hR : REL c A F) (hc : c < 512) (d : Int) (i_d : inI d) (hd : 0 ≤ d ∧ F 0 ≤ d) : R 74 (0, L0 74 [vR 1, vI d], [], LAY (shA A) (shF F), 0, 0) (fun r G => (∃ x, r = some (vI x)) ∧ (∃ (A1 : Nat → List Int) (F1 : Nat → Int), G = LAY A1 F1 ∧ A1 0 = A 0) ∧ R 148 (0, L0 148 [vR 88, vI d], [], G, 0, 0) (fun r2 G2 => r2 = r ∧ ∃ (A' : Nat → List Int) (F' : Nat → Int), G2 = LAY (shA A') (shF F') ∧ A' 0 = A 0 ∧ REL (c + 1) A' F')) := by
  have hR0 := hR
  obtain ⟨hL, hPE, hTH, hTP, hDE, hLE, hNO, hAC, hRO, hRE⟩ := hR
  have j_d := i_d
  unfold inI at j_d
  have h87 : (A 87).length = 9 := hL 87 (by decide)
  have r2 := REFU_at hRE (k := 2) (by decide) (by decide) hc
  have r3 := REFU_at hRE (k := 3) (by decide) (by decide) hc
  have r4 := REFU_at hRE (k := 4) (by decide) (by decide) hc
  have r5 := REFU_at hRE (k := 5) (by decide) (by decide) hc
  have r6 := REFU_at hRE (k := 6) (by decide) (by decide) hc
  have r7 := REFU_at hRE (k := 7) (by decide) (by decide) hc
  have r8 := REFU_at hRE (k := 8) (by decide) (by decide) hc
  obtain ⟨t1, t2, t3, t4, t5, t6⟩ := hTH
  obtain ⟨p1, p2, p3, p4, p5, p6⟩ := hPE
  refine R_s (P := True) (f' := (2, [some (vR 1), some (vI d)], [vI d, vR 1], LAY (shA A) (shF F), 0, 0)) hc74 2 rfl trivial ?_
  refine R_cv hc74 rfl rfl ?_ (fun r G h => h)
  refine R_s (P := True) (f' := (1, [some (vR 1), some (vI d)], [vI d], LAY (shA A) (shF F), 0, 0)) hc98 1 rfl trivial ?_
  refine R_if (t := 16) hc98 rfl rfl (fun (z : d < 0) => absurd z (by omega)) (fun (_ : ¬ (d < 0)) => ?_)
  refine R_s (P := True) (f' := (9, [some (vR 1), some (vI d)], [vI (F 0), vI d], LAY (shA A) (shF F), 0, 0)) hc98 3 rfl trivial ?_
  refine R_ic (t := 16) hc98 rfl rfl (fun (_ : F 0 ≤ d) => ?_) (fun (z : ¬ (F 0 ≤ d)) => absurd (show F 0 ≤ d by omega) z)
  refine R_s (P := True) (f' := (17, [some (vR 1), some (vI d)], [vI 0], LAY (shA A) (shF F), 0, 0)) hc98 1 rfl trivial ?_
  refine R_retz hc98 rfl rfl (Or.inl rfl) ?_
  refine R_s (f' := (5, [some (vR 1), some (vI d)], [vI 0], LAY (shA A) (shF F), 0, 0)) hc74 0 rfl trivial ?_
  refine R_if (t := 15) hc74 rfl rfl (fun (z : ¬ 0 = 0) => absurd z (by decide)) (fun (_ : ¬ (¬ 0 = 0)) => ?_)
  refine R_s (P := True) (f' := (11, [some (vR 1), some (vI d)], [vI (-3), vR 1], LAY (shA A) (shF F), 0, 0)) hc74 2 rfl trivial ?_
  refine R_cv hc74 rfl rfl ?_ (fun r G h => h)
  refine R_s (P := True) (f' := (3, [some (vR 1), some (vI (-3))], [vI (-2), vI (-3)], LAY (shA A) (shF F), 0, 0)) hc93 2 rfl trivial ?_
  refine R_ic (t := 23) hc93 rfl rfl (fun (z : (-2) < (-3)) => absurd z (by decide)) (fun (_ : ¬ ((-2) < (-3))) => ?_)
  refine R_s (P := True) (f' := (9, [some (vR 1), some (vI (-3))], [vI (-8), vI (-3)], LAY (shA A) (shF F), 0, 0)) hc93 2 rfl trivial ?_
  refine R_ic (t := 23) hc93 rfl rfl (fun (z : (-3) < (-8)) => absurd z (by decide)) (fun (_ : ¬ ((-3) < (-8))) => ?_)
  refine R_s (P := inI 3 ∧ (0 ≤ 3 ∧ 3 < ((A 87).length : Int)) ∧ inI ((rd (A 87) 3) + 1) ∧ (0 ≤ 3 ∧ 3 < ((A 87).length : Int)) ∧ True) (f' := (24, [some (vR 1), some (vI (-3))], [vI (-3)], LAY (u (shA A) 87 (wr (A 87) 3 ((rd (A 87) 3) + 1))) (shF F), 0, 0)) hc93 10 rfl ⟨⟨by omega, by omega⟩, ⟨by omega, by omega⟩, ⟨by omega, by omega⟩, ⟨by omega, by omega⟩, trivial⟩ ?_
  refine R_reti hc93 rfl rfl ?_
  refine R_s (f' := (14, [some (vR 1), some (vI d)], [vI (-3)], LAY (u (shA A) 87 (wr (A 87) 3 ((rd (A 87) 3) + 1))) (shF F), 0, 0)) hc74 0 rfl trivial ?_
  refine R_reti hc74 rfl rfl ⟨⟨_, rfl⟩, ⟨_, _, rfl, rfl⟩, ?_⟩
  refine R_s (P := True) (f' := (2, [some (vR 88), some (vI d)], [vI d, vR 88], LAY (u (shA A) 87 (wr (A 87) 3 ((rd (A 87) 3) + 1))) (shF F), 0, 0)) hc148 2 rfl trivial ?_
  refine R_cv hc148 rfl rfl ?_ (fun r G h => h)
  refine R_s (P := inI ((F 0) - 1) ∧ True) (f' := (8, [some (vR 88), some (vI d)], [vI ((F 0) - 1), vI 0, vI d], LAY (u (shA A) 87 (wr (A 87) 3 ((rd (A 87) 3) + 1))) (shF F), 0, 0)) hc108 6 rfl ⟨⟨by omega, by omega⟩, trivial⟩ ?_
  refine R_cs hc108 rfl rfl ?_ (fun r G h => h)
  refine R_s (P := True) (f' := (2, [some (vI d), some (vI 0), some (vI ((F 0) - 1))], [vI 0, vI d], LAY (u (shA A) 87 (wr (A 87) 3 ((rd (A 87) 3) + 1))) (shF F), 0, 0)) hc104 2 rfl trivial ?_
  refine R_ic (t := 14) hc104 rfl rfl (fun (z : d < 0) => absurd z (by omega)) (fun (_ : ¬ (d < 0)) => ?_)
  refine R_s (P := True) (f' := (7, [some (vI d), some (vI 0), some (vI ((F 0) - 1))], [vI ((F 0) - 1), vI d], LAY (u (shA A) 87 (wr (A 87) 3 ((rd (A 87) 3) + 1))) (shF F), 0, 0)) hc104 2 rfl trivial ?_
  refine R_ic (t := 14) hc104 rfl rfl (fun (_ : (F 0) - 1 < d) => ?_) (fun (z : ¬ ((F 0) - 1 < d)) => absurd (show (F 0) - 1 < d by omega) z)
  refine R_s (P := True) (f' := (15, [some (vI d), some (vI 0), some (vI ((F 0) - 1))], [vI 0], LAY (u (shA A) 87 (wr (A 87) 3 ((rd (A 87) 3) + 1))) (shF F), 0, 0)) hc104 1 rfl trivial ?_
  refine R_retz hc104 rfl rfl (Or.inl rfl) ?_
  refine R_s (f' := (11, [some (vR 88), some (vI d)], [vI 0], LAY (u (shA A) 87 (wr (A 87) 3 ((rd (A 87) 3) + 1))) (shF F), 0, 0)) hc108 0 rfl trivial ?_
  refine R_retz hc108 rfl rfl (Or.inl rfl) ?_
  refine R_s (f' := (5, [some (vR 88), some (vI d)], [vI 0], LAY (u (shA A) 87 (wr (A 87) 3 ((rd (A 87) 3) + 1))) (shF F), 0, 0)) hc148 0 rfl trivial ?_
  refine R_if (t := 16) hc148 rfl rfl (fun (_ : 0 = 0) => ?_) (fun (z : ¬ (0 = 0)) => absurd (by decide) z)
  refine R_s (P := True) (f' := (19, [some (vR 88), some (vI d)], [vI (-3), vR 88], LAY (u (shA A) 87 (wr (A 87) 3 ((rd (A 87) 3) + 1))) (shF F), 0, 0)) hc148 2 rfl trivial ?_
  refine R_cv hc148 rfl rfl ?_ (fun r G h => h)
  refine R_s (P := inI 3 ∧ (0 ≤ 3 ∧ 3 < ((A 87).length : Int)) ∧ inI ((rd (A 87) 3) + 1) ∧ (0 ≤ 3 ∧ 3 < ((A 87).length : Int)) ∧ True) (f' := (12, [some (vR 88), some (vI (-3))], [vI (-3)], LAY (u (u (shA A) 87 (wr (A 87) 3 ((rd (A 87) 3) + 1))) 89 (wr (A 87) 3 ((rd (A 87) 3) + 1))) (shF F), 0, 0)) hc105 10 rfl ⟨⟨by omega, by omega⟩, ⟨by omega, by omega⟩, ⟨by omega, by omega⟩, ⟨by omega, by omega⟩, trivial⟩ ?_
  refine R_reti hc105 rfl rfl ?_
  refine R_s (f' := (22, [some (vR 88), some (vI d)], [vI (-3)], LAY (u (u (shA A) 87 (wr (A 87) 3 ((rd (A 87) 3) + 1))) 89 (wr (A 87) 3 ((rd (A 87) 3) + 1))) (shF F), 0, 0)) hc148 0 rfl trivial ?_
  refine R_reti hc148 rfl rfl ?_
  first
    | (exfalso; omega; done)
    | exact ⟨rfl, (u A 87 (wr (A 87) 3 ((rd (A 87) 3) + 1))), F, rfl, rfl, REL_ref hR0 (by decide) (by decide)⟩

theorem op_yields_0 {c : Int} {A : Nat → List Int} {F : Nat → Int} (hR : REL c A F) (hc : c < 512) (hd : (0 : Int) < F 0) : R 74 (0, L0 74 [vR 1, vI 0], [], LAY (shA A) (shF F), 0, 0) (fun r G => (∃ x, r = some (vI x)) ∧ (∃ (A1 : Nat → List Int) (F1 : Nat → Int), G = LAY A1 F1 ∧ A1 0 = A 0) ∧ R 148 (0, L0 148 [vR 88, vI 0], [], G, 0, 0) (fun r2 G2 => r2 = r ∧ ∃ (A' : Nat → List Int) (F' : Nat → Int), G2 = LAY (shA A') (shF F') ∧ A' 0 = A 0 ∧ REL (c + 1) A' F')) := by
  have hR0 := hR
  obtain ⟨hL, hPE, hTH, hTP, hDE, hLE, hNO, hAC, hRO, hRE⟩ := hR
  have h87 : (A 87).length = 9 := hL 87 (by decide)
  have h99 : (A 99).length = 6 := hL 99 (by decide)
  have r2 := REFU_at hRE (k := 2) (by decide) (by decide) hc
  have r3 := REFU_at hRE (k := 3) (by decide) (by decide) hc
  have r4 := REFU_at hRE (k := 4) (by decide) (by decide) hc
  have r5 := REFU_at hRE (k := 5) (by decide) (by decide) hc
  have r6 := REFU_at hRE (k := 6) (by decide) (by decide) hc
  have r7 := REFU_at hRE (k := 7) (by decide) (by decide) hc
  have r8 := REFU_at hRE (k := 8) (by decide) (by decide) hc
  obtain ⟨t1, t2, t3, t4, t5, t6⟩ := hTH
  obtain ⟨p1, p2, p3, p4, p5, p6⟩ := hPE
  refine R_s (P := True) (f' := (2, [some (vR 1), some (vI 0)], [vI 0, vR 1], LAY (shA A) (shF F), 0, 0)) hc74 2 rfl trivial ?_
  refine R_cv hc74 rfl rfl ?_ (fun r G h => h)
  refine R_s (P := True) (f' := (1, [some (vR 1), some (vI 0)], [vI 0], LAY (shA A) (shF F), 0, 0)) hc98 1 rfl trivial ?_
  refine R_if (t := 16) hc98 rfl rfl (fun (z : 0 < 0) => absurd z (by decide)) (fun (_ : ¬ (0 < 0)) => ?_)
  refine R_s (P := True) (f' := (9, [some (vR 1), some (vI 0)], [vI (F 0), vI 0], LAY (shA A) (shF F), 0, 0)) hc98 3 rfl trivial ?_
  refine R_ic (t := 16) hc98 rfl rfl (fun (z : F 0 ≤ 0) => absurd z (by omega)) (fun (_ : ¬ (F 0 ≤ 0)) => ?_)
  refine R_s (P := True) (f' := (17, [some (vR 1), some (vI 0)], [vI 1], LAY (shA A) (shF F), 0, 0)) hc98 2 rfl trivial ?_
  refine R_retz hc98 rfl rfl (Or.inr rfl) ?_
  refine R_s (f' := (5, [some (vR 1), some (vI 0)], [vI 1], LAY (shA A) (shF F), 0, 0)) hc74 0 rfl trivial ?_
  refine R_if (t := 15) hc74 rfl rfl (fun (_ : ¬ 1 = 0) => ?_) (fun (z : ¬ (¬ 1 = 0)) => absurd (by decide) z)
  refine R_s (P := True) (f' := (20, [some (vR 1), some (vI 0)], [vI 0, vR 12], LAY (shA A) (shF F), 0, 0)) hc74 3 rfl trivial ?_
  refine R_cv hc74 rfl rfl (l_yieldC (A := (shA A)) (F := (shF F)) (LENS_sh hL) ⟨t1, t2⟩ 0 (by decide) (fun i hi => R_prod hR0 (d := 0) (by decide) i hi)) (fun r G9 hp9 => ?_)
  obtain ⟨e1, rfl⟩ := hp9
  have e2 : r = some (vI (N_Y A F 0)) := e1
  clear e1
  subst e2
  refine R_s (f' := (23, [some (vR 1), some (vI 0)], [vI (N_Y A F 0)], LAY (shA A) (shF F), 0, 0)) hc74 0 rfl trivial ?_
  refine R_reti hc74 rfl rfl ⟨⟨_, rfl⟩, ⟨_, _, rfl, rfl⟩, ?_⟩
  refine R_s (P := True) (f' := (2, [some (vR 88), some (vI 0)], [vI 0, vR 88], LAY (shA A) (shF F), 0, 0)) hc148 2 rfl trivial ?_
  refine R_cv hc148 rfl rfl ?_ (fun r G h => h)
  refine R_s (P := inI ((F 0) - 1) ∧ True) (f' := (8, [some (vR 88), some (vI 0)], [vI ((F 0) - 1), vI 0, vI 0], LAY (shA A) (shF F), 0, 0)) hc108 6 rfl ⟨⟨by omega, by omega⟩, trivial⟩ ?_
  refine R_cs hc108 rfl rfl ?_ (fun r G h => h)
  refine R_s (P := True) (f' := (2, [some (vI 0), some (vI 0), some (vI ((F 0) - 1))], [vI 0, vI 0], LAY (shA A) (shF F), 0, 0)) hc104 2 rfl trivial ?_
  refine R_ic (t := 14) hc104 rfl rfl (fun (z : 0 < 0) => absurd z (by decide)) (fun (_ : ¬ (0 < 0)) => ?_)
  refine R_s (P := True) (f' := (7, [some (vI 0), some (vI 0), some (vI ((F 0) - 1))], [vI ((F 0) - 1), vI 0], LAY (shA A) (shF F), 0, 0)) hc104 2 rfl trivial ?_
  refine R_ic (t := 14) hc104 rfl rfl (fun (z : (F 0) - 1 < 0) => absurd z (by omega)) (fun (_ : ¬ ((F 0) - 1 < 0)) => ?_)
  refine R_s (P := True) (f' := (15, [some (vI 0), some (vI 0), some (vI ((F 0) - 1))], [vI 1], LAY (shA A) (shF F), 0, 0)) hc104 2 rfl trivial ?_
  refine R_retz hc104 rfl rfl (Or.inr rfl) ?_
  refine R_s (f' := (11, [some (vR 88), some (vI 0)], [vI 1], LAY (shA A) (shF F), 0, 0)) hc108 0 rfl trivial ?_
  refine R_retz hc108 rfl rfl (Or.inr rfl) ?_
  refine R_s (f' := (5, [some (vR 88), some (vI 0)], [vI 1], LAY (shA A) (shF F), 0, 0)) hc148 0 rfl trivial ?_
  refine R_if (t := 16) hc148 rfl rfl (fun (z : 1 = 0) => absurd z (by decide)) (fun (_ : ¬ (1 = 0)) => ?_)
  refine R_s (P := True) (f' := (10, [some (vR 88), some (vI 0)], [vI 0, vR 88], LAY (shA A) (shF F), 0, 0)) hc148 2 rfl trivial ?_
  refine R_cv hc148 rfl rfl (l_yieldM' (A := (shA A)) (F := (shF F)) ⟨t1, t2⟩ (hL 14 (by decide)) (hL 15 (by decide)) (hL 16 (by decide)) 0 (by decide) (fun i hi => by have z := R_prod hR0 (d := 0) (by decide) i hi; rw [show (i : Int) * 6 + 0 = 6 * (i : Int) + 0 by omega] at z; exact z)) (fun r G9 hp9 => ?_)
  obtain ⟨e1, rfl⟩ := hp9
  have e2 : r = some (vI (N_Y A F 0)) := by
    rw [← N_Y_m]
    exact e1
  clear e1
  subst e2
  refine R_s (f' := (13, [some (vR 88), some (vI 0)], [vI (N_Y A F 0)], LAY (shA A) (shF F), 0, 0)) hc148 0 rfl trivial ?_
  refine R_s (P := True) (f' := (22, [some (vR 88), some (vI 0)], [vI (N_Y A F 0)], LAY (shA A) (shF F), 0, 0)) hc148 1 rfl trivial ?_
  refine R_reti hc148 rfl rfl ?_
  first
    | (exfalso; omega; done)
    | exact ⟨rfl, A, F, rfl, rfl, REL_c hR0⟩

theorem op_yields_1 {c : Int} {A : Nat → List Int} {F : Nat → Int} (hR : REL c A F) (hc : c < 512) (hd : (1 : Int) < F 0) : R 74 (0, L0 74 [vR 1, vI 1], [], LAY (shA A) (shF F), 0, 0) (fun r G => (∃ x, r = some (vI x)) ∧ (∃ (A1 : Nat → List Int) (F1 : Nat → Int), G = LAY A1 F1 ∧ A1 0 = A 0) ∧ R 148 (0, L0 148 [vR 88, vI 1], [], G, 0, 0) (fun r2 G2 => r2 = r ∧ ∃ (A' : Nat → List Int) (F' : Nat → Int), G2 = LAY (shA A') (shF F') ∧ A' 0 = A 0 ∧ REL (c + 1) A' F')) := by
  have hR0 := hR
  obtain ⟨hL, hPE, hTH, hTP, hDE, hLE, hNO, hAC, hRO, hRE⟩ := hR
  have h87 : (A 87).length = 9 := hL 87 (by decide)
  have h99 : (A 99).length = 6 := hL 99 (by decide)
  have r2 := REFU_at hRE (k := 2) (by decide) (by decide) hc
  have r3 := REFU_at hRE (k := 3) (by decide) (by decide) hc
  have r4 := REFU_at hRE (k := 4) (by decide) (by decide) hc
  have r5 := REFU_at hRE (k := 5) (by decide) (by decide) hc
  have r6 := REFU_at hRE (k := 6) (by decide) (by decide) hc
  have r7 := REFU_at hRE (k := 7) (by decide) (by decide) hc
  have r8 := REFU_at hRE (k := 8) (by decide) (by decide) hc
  obtain ⟨t1, t2, t3, t4, t5, t6⟩ := hTH
  obtain ⟨p1, p2, p3, p4, p5, p6⟩ := hPE
  refine R_s (P := True) (f' := (2, [some (vR 1), some (vI 1)], [vI 1, vR 1], LAY (shA A) (shF F), 0, 0)) hc74 2 rfl trivial ?_
  refine R_cv hc74 rfl rfl ?_ (fun r G h => h)
  refine R_s (P := True) (f' := (1, [some (vR 1), some (vI 1)], [vI 1], LAY (shA A) (shF F), 0, 0)) hc98 1 rfl trivial ?_
  refine R_if (t := 16) hc98 rfl rfl (fun (z : 1 < 0) => absurd z (by decide)) (fun (_ : ¬ (1 < 0)) => ?_)
  refine R_s (P := True) (f' := (9, [some (vR 1), some (vI 1)], [vI (F 0), vI 1], LAY (shA A) (shF F), 0, 0)) hc98 3 rfl trivial ?_
  refine R_ic (t := 16) hc98 rfl rfl (fun (z : F 0 ≤ 1) => absurd z (by omega)) (fun (_ : ¬ (F 0 ≤ 1)) => ?_)
  refine R_s (P := True) (f' := (17, [some (vR 1), some (vI 1)], [vI 1], LAY (shA A) (shF F), 0, 0)) hc98 2 rfl trivial ?_
  refine R_retz hc98 rfl rfl (Or.inr rfl) ?_
  refine R_s (f' := (5, [some (vR 1), some (vI 1)], [vI 1], LAY (shA A) (shF F), 0, 0)) hc74 0 rfl trivial ?_
  refine R_if (t := 15) hc74 rfl rfl (fun (_ : ¬ 1 = 0) => ?_) (fun (z : ¬ (¬ 1 = 0)) => absurd (by decide) z)
  refine R_s (P := True) (f' := (20, [some (vR 1), some (vI 1)], [vI 1, vR 12], LAY (shA A) (shF F), 0, 0)) hc74 3 rfl trivial ?_
  refine R_cv hc74 rfl rfl (l_yieldC (A := (shA A)) (F := (shF F)) (LENS_sh hL) ⟨t1, t2⟩ 1 (by decide) (fun i hi => R_prod hR0 (d := 1) (by decide) i hi)) (fun r G9 hp9 => ?_)
  obtain ⟨e1, rfl⟩ := hp9
  have e2 : r = some (vI (N_Y A F 1)) := e1
  clear e1
  subst e2
  refine R_s (f' := (23, [some (vR 1), some (vI 1)], [vI (N_Y A F 1)], LAY (shA A) (shF F), 0, 0)) hc74 0 rfl trivial ?_
  refine R_reti hc74 rfl rfl ⟨⟨_, rfl⟩, ⟨_, _, rfl, rfl⟩, ?_⟩
  refine R_s (P := True) (f' := (2, [some (vR 88), some (vI 1)], [vI 1, vR 88], LAY (shA A) (shF F), 0, 0)) hc148 2 rfl trivial ?_
  refine R_cv hc148 rfl rfl ?_ (fun r G h => h)
  refine R_s (P := inI ((F 0) - 1) ∧ True) (f' := (8, [some (vR 88), some (vI 1)], [vI ((F 0) - 1), vI 0, vI 1], LAY (shA A) (shF F), 0, 0)) hc108 6 rfl ⟨⟨by omega, by omega⟩, trivial⟩ ?_
  refine R_cs hc108 rfl rfl ?_ (fun r G h => h)
  refine R_s (P := True) (f' := (2, [some (vI 1), some (vI 0), some (vI ((F 0) - 1))], [vI 0, vI 1], LAY (shA A) (shF F), 0, 0)) hc104 2 rfl trivial ?_
  refine R_ic (t := 14) hc104 rfl rfl (fun (z : 1 < 0) => absurd z (by decide)) (fun (_ : ¬ (1 < 0)) => ?_)
  refine R_s (P := True) (f' := (7, [some (vI 1), some (vI 0), some (vI ((F 0) - 1))], [vI ((F 0) - 1), vI 1], LAY (shA A) (shF F), 0, 0)) hc104 2 rfl trivial ?_
  refine R_ic (t := 14) hc104 rfl rfl (fun (z : (F 0) - 1 < 1) => absurd z (by omega)) (fun (_ : ¬ ((F 0) - 1 < 1)) => ?_)
  refine R_s (P := True) (f' := (15, [some (vI 1), some (vI 0), some (vI ((F 0) - 1))], [vI 1], LAY (shA A) (shF F), 0, 0)) hc104 2 rfl trivial ?_
  refine R_retz hc104 rfl rfl (Or.inr rfl) ?_
  refine R_s (f' := (11, [some (vR 88), some (vI 1)], [vI 1], LAY (shA A) (shF F), 0, 0)) hc108 0 rfl trivial ?_
  refine R_retz hc108 rfl rfl (Or.inr rfl) ?_
  refine R_s (f' := (5, [some (vR 88), some (vI 1)], [vI 1], LAY (shA A) (shF F), 0, 0)) hc148 0 rfl trivial ?_
  refine R_if (t := 16) hc148 rfl rfl (fun (z : 1 = 0) => absurd z (by decide)) (fun (_ : ¬ (1 = 0)) => ?_)
  refine R_s (P := True) (f' := (10, [some (vR 88), some (vI 1)], [vI 1, vR 88], LAY (shA A) (shF F), 0, 0)) hc148 2 rfl trivial ?_
  refine R_cv hc148 rfl rfl (l_yieldM' (A := (shA A)) (F := (shF F)) ⟨t1, t2⟩ (hL 14 (by decide)) (hL 15 (by decide)) (hL 16 (by decide)) 1 (by decide) (fun i hi => by have z := R_prod hR0 (d := 1) (by decide) i hi; rw [show (i : Int) * 6 + 1 = 6 * (i : Int) + 1 by omega] at z; exact z)) (fun r G9 hp9 => ?_)
  obtain ⟨e1, rfl⟩ := hp9
  have e2 : r = some (vI (N_Y A F 1)) := by
    rw [← N_Y_m]
    exact e1
  clear e1
  subst e2
  refine R_s (f' := (13, [some (vR 88), some (vI 1)], [vI (N_Y A F 1)], LAY (shA A) (shF F), 0, 0)) hc148 0 rfl trivial ?_
  refine R_s (P := True) (f' := (22, [some (vR 88), some (vI 1)], [vI (N_Y A F 1)], LAY (shA A) (shF F), 0, 0)) hc148 1 rfl trivial ?_
  refine R_reti hc148 rfl rfl ?_
  first
    | (exfalso; omega; done)
    | exact ⟨rfl, A, F, rfl, rfl, REL_c hR0⟩

theorem op_yields_2 {c : Int} {A : Nat → List Int} {F : Nat → Int} (hR : REL c A F) (hc : c < 512) (hd : (2 : Int) < F 0) : R 74 (0, L0 74 [vR 1, vI 2], [], LAY (shA A) (shF F), 0, 0) (fun r G => (∃ x, r = some (vI x)) ∧ (∃ (A1 : Nat → List Int) (F1 : Nat → Int), G = LAY A1 F1 ∧ A1 0 = A 0) ∧ R 148 (0, L0 148 [vR 88, vI 2], [], G, 0, 0) (fun r2 G2 => r2 = r ∧ ∃ (A' : Nat → List Int) (F' : Nat → Int), G2 = LAY (shA A') (shF F') ∧ A' 0 = A 0 ∧ REL (c + 1) A' F')) := by
  have hR0 := hR
  obtain ⟨hL, hPE, hTH, hTP, hDE, hLE, hNO, hAC, hRO, hRE⟩ := hR
  have h87 : (A 87).length = 9 := hL 87 (by decide)
  have h99 : (A 99).length = 6 := hL 99 (by decide)
  have r2 := REFU_at hRE (k := 2) (by decide) (by decide) hc
  have r3 := REFU_at hRE (k := 3) (by decide) (by decide) hc
  have r4 := REFU_at hRE (k := 4) (by decide) (by decide) hc
  have r5 := REFU_at hRE (k := 5) (by decide) (by decide) hc
  have r6 := REFU_at hRE (k := 6) (by decide) (by decide) hc
  have r7 := REFU_at hRE (k := 7) (by decide) (by decide) hc
  have r8 := REFU_at hRE (k := 8) (by decide) (by decide) hc
  obtain ⟨t1, t2, t3, t4, t5, t6⟩ := hTH
  obtain ⟨p1, p2, p3, p4, p5, p6⟩ := hPE
  refine R_s (P := True) (f' := (2, [some (vR 1), some (vI 2)], [vI 2, vR 1], LAY (shA A) (shF F), 0, 0)) hc74 2 rfl trivial ?_
  refine R_cv hc74 rfl rfl ?_ (fun r G h => h)
  refine R_s (P := True) (f' := (1, [some (vR 1), some (vI 2)], [vI 2], LAY (shA A) (shF F), 0, 0)) hc98 1 rfl trivial ?_
  refine R_if (t := 16) hc98 rfl rfl (fun (z : 2 < 0) => absurd z (by decide)) (fun (_ : ¬ (2 < 0)) => ?_)
  refine R_s (P := True) (f' := (9, [some (vR 1), some (vI 2)], [vI (F 0), vI 2], LAY (shA A) (shF F), 0, 0)) hc98 3 rfl trivial ?_
  refine R_ic (t := 16) hc98 rfl rfl (fun (z : F 0 ≤ 2) => absurd z (by omega)) (fun (_ : ¬ (F 0 ≤ 2)) => ?_)
  refine R_s (P := True) (f' := (17, [some (vR 1), some (vI 2)], [vI 1], LAY (shA A) (shF F), 0, 0)) hc98 2 rfl trivial ?_
  refine R_retz hc98 rfl rfl (Or.inr rfl) ?_
  refine R_s (f' := (5, [some (vR 1), some (vI 2)], [vI 1], LAY (shA A) (shF F), 0, 0)) hc74 0 rfl trivial ?_
  refine R_if (t := 15) hc74 rfl rfl (fun (_ : ¬ 1 = 0) => ?_) (fun (z : ¬ (¬ 1 = 0)) => absurd (by decide) z)
  refine R_s (P := True) (f' := (20, [some (vR 1), some (vI 2)], [vI 2, vR 12], LAY (shA A) (shF F), 0, 0)) hc74 3 rfl trivial ?_
  refine R_cv hc74 rfl rfl (l_yieldC (A := (shA A)) (F := (shF F)) (LENS_sh hL) ⟨t1, t2⟩ 2 (by decide) (fun i hi => R_prod hR0 (d := 2) (by decide) i hi)) (fun r G9 hp9 => ?_)
  obtain ⟨e1, rfl⟩ := hp9
  have e2 : r = some (vI (N_Y A F 2)) := e1
  clear e1
  subst e2
  refine R_s (f' := (23, [some (vR 1), some (vI 2)], [vI (N_Y A F 2)], LAY (shA A) (shF F), 0, 0)) hc74 0 rfl trivial ?_
  refine R_reti hc74 rfl rfl ⟨⟨_, rfl⟩, ⟨_, _, rfl, rfl⟩, ?_⟩
  refine R_s (P := True) (f' := (2, [some (vR 88), some (vI 2)], [vI 2, vR 88], LAY (shA A) (shF F), 0, 0)) hc148 2 rfl trivial ?_
  refine R_cv hc148 rfl rfl ?_ (fun r G h => h)
  refine R_s (P := inI ((F 0) - 1) ∧ True) (f' := (8, [some (vR 88), some (vI 2)], [vI ((F 0) - 1), vI 0, vI 2], LAY (shA A) (shF F), 0, 0)) hc108 6 rfl ⟨⟨by omega, by omega⟩, trivial⟩ ?_
  refine R_cs hc108 rfl rfl ?_ (fun r G h => h)
  refine R_s (P := True) (f' := (2, [some (vI 2), some (vI 0), some (vI ((F 0) - 1))], [vI 0, vI 2], LAY (shA A) (shF F), 0, 0)) hc104 2 rfl trivial ?_
  refine R_ic (t := 14) hc104 rfl rfl (fun (z : 2 < 0) => absurd z (by decide)) (fun (_ : ¬ (2 < 0)) => ?_)
  refine R_s (P := True) (f' := (7, [some (vI 2), some (vI 0), some (vI ((F 0) - 1))], [vI ((F 0) - 1), vI 2], LAY (shA A) (shF F), 0, 0)) hc104 2 rfl trivial ?_
  refine R_ic (t := 14) hc104 rfl rfl (fun (z : (F 0) - 1 < 2) => absurd z (by omega)) (fun (_ : ¬ ((F 0) - 1 < 2)) => ?_)
  refine R_s (P := True) (f' := (15, [some (vI 2), some (vI 0), some (vI ((F 0) - 1))], [vI 1], LAY (shA A) (shF F), 0, 0)) hc104 2 rfl trivial ?_
  refine R_retz hc104 rfl rfl (Or.inr rfl) ?_
  refine R_s (f' := (11, [some (vR 88), some (vI 2)], [vI 1], LAY (shA A) (shF F), 0, 0)) hc108 0 rfl trivial ?_
  refine R_retz hc108 rfl rfl (Or.inr rfl) ?_
  refine R_s (f' := (5, [some (vR 88), some (vI 2)], [vI 1], LAY (shA A) (shF F), 0, 0)) hc148 0 rfl trivial ?_
  refine R_if (t := 16) hc148 rfl rfl (fun (z : 1 = 0) => absurd z (by decide)) (fun (_ : ¬ (1 = 0)) => ?_)
  refine R_s (P := True) (f' := (10, [some (vR 88), some (vI 2)], [vI 2, vR 88], LAY (shA A) (shF F), 0, 0)) hc148 2 rfl trivial ?_
  refine R_cv hc148 rfl rfl (l_yieldM' (A := (shA A)) (F := (shF F)) ⟨t1, t2⟩ (hL 14 (by decide)) (hL 15 (by decide)) (hL 16 (by decide)) 2 (by decide) (fun i hi => by have z := R_prod hR0 (d := 2) (by decide) i hi; rw [show (i : Int) * 6 + 2 = 6 * (i : Int) + 2 by omega] at z; exact z)) (fun r G9 hp9 => ?_)
  obtain ⟨e1, rfl⟩ := hp9
  have e2 : r = some (vI (N_Y A F 2)) := by
    rw [← N_Y_m]
    exact e1
  clear e1
  subst e2
  refine R_s (f' := (13, [some (vR 88), some (vI 2)], [vI (N_Y A F 2)], LAY (shA A) (shF F), 0, 0)) hc148 0 rfl trivial ?_
  refine R_s (P := True) (f' := (22, [some (vR 88), some (vI 2)], [vI (N_Y A F 2)], LAY (shA A) (shF F), 0, 0)) hc148 1 rfl trivial ?_
  refine R_reti hc148 rfl rfl ?_
  first
    | (exfalso; omega; done)
    | exact ⟨rfl, A, F, rfl, rfl, REL_c hR0⟩

theorem op_yields_3 {c : Int} {A : Nat → List Int} {F : Nat → Int} (hR : REL c A F) (hc : c < 512) (hd : (3 : Int) < F 0) : R 74 (0, L0 74 [vR 1, vI 3], [], LAY (shA A) (shF F), 0, 0) (fun r G => (∃ x, r = some (vI x)) ∧ (∃ (A1 : Nat → List Int) (F1 : Nat → Int), G = LAY A1 F1 ∧ A1 0 = A 0) ∧ R 148 (0, L0 148 [vR 88, vI 3], [], G, 0, 0) (fun r2 G2 => r2 = r ∧ ∃ (A' : Nat → List Int) (F' : Nat → Int), G2 = LAY (shA A') (shF F') ∧ A' 0 = A 0 ∧ REL (c + 1) A' F')) := by
  have hR0 := hR
  obtain ⟨hL, hPE, hTH, hTP, hDE, hLE, hNO, hAC, hRO, hRE⟩ := hR
  have h87 : (A 87).length = 9 := hL 87 (by decide)
  have h99 : (A 99).length = 6 := hL 99 (by decide)
  have r2 := REFU_at hRE (k := 2) (by decide) (by decide) hc
  have r3 := REFU_at hRE (k := 3) (by decide) (by decide) hc
  have r4 := REFU_at hRE (k := 4) (by decide) (by decide) hc
  have r5 := REFU_at hRE (k := 5) (by decide) (by decide) hc
  have r6 := REFU_at hRE (k := 6) (by decide) (by decide) hc
  have r7 := REFU_at hRE (k := 7) (by decide) (by decide) hc
  have r8 := REFU_at hRE (k := 8) (by decide) (by decide) hc
  obtain ⟨t1, t2, t3, t4, t5, t6⟩ := hTH
  obtain ⟨p1, p2, p3, p4, p5, p6⟩ := hPE
  refine R_s (P := True) (f' := (2, [some (vR 1), some (vI 3)], [vI 3, vR 1], LAY (shA A) (shF F), 0, 0)) hc74 2 rfl trivial ?_
  refine R_cv hc74 rfl rfl ?_ (fun r G h => h)
  refine R_s (P := True) (f' := (1, [some (vR 1), some (vI 3)], [vI 3], LAY (shA A) (shF F), 0, 0)) hc98 1 rfl trivial ?_
  refine R_if (t := 16) hc98 rfl rfl (fun (z : 3 < 0) => absurd z (by decide)) (fun (_ : ¬ (3 < 0)) => ?_)
  refine R_s (P := True) (f' := (9, [some (vR 1), some (vI 3)], [vI (F 0), vI 3], LAY (shA A) (shF F), 0, 0)) hc98 3 rfl trivial ?_
  refine R_ic (t := 16) hc98 rfl rfl (fun (z : F 0 ≤ 3) => absurd z (by omega)) (fun (_ : ¬ (F 0 ≤ 3)) => ?_)
  refine R_s (P := True) (f' := (17, [some (vR 1), some (vI 3)], [vI 1], LAY (shA A) (shF F), 0, 0)) hc98 2 rfl trivial ?_
  refine R_retz hc98 rfl rfl (Or.inr rfl) ?_
  refine R_s (f' := (5, [some (vR 1), some (vI 3)], [vI 1], LAY (shA A) (shF F), 0, 0)) hc74 0 rfl trivial ?_
  refine R_if (t := 15) hc74 rfl rfl (fun (_ : ¬ 1 = 0) => ?_) (fun (z : ¬ (¬ 1 = 0)) => absurd (by decide) z)
  refine R_s (P := True) (f' := (20, [some (vR 1), some (vI 3)], [vI 3, vR 12], LAY (shA A) (shF F), 0, 0)) hc74 3 rfl trivial ?_
  refine R_cv hc74 rfl rfl (l_yieldC (A := (shA A)) (F := (shF F)) (LENS_sh hL) ⟨t1, t2⟩ 3 (by decide) (fun i hi => R_prod hR0 (d := 3) (by decide) i hi)) (fun r G9 hp9 => ?_)
  obtain ⟨e1, rfl⟩ := hp9
  have e2 : r = some (vI (N_Y A F 3)) := e1
  clear e1
  subst e2
  refine R_s (f' := (23, [some (vR 1), some (vI 3)], [vI (N_Y A F 3)], LAY (shA A) (shF F), 0, 0)) hc74 0 rfl trivial ?_
  refine R_reti hc74 rfl rfl ⟨⟨_, rfl⟩, ⟨_, _, rfl, rfl⟩, ?_⟩
  refine R_s (P := True) (f' := (2, [some (vR 88), some (vI 3)], [vI 3, vR 88], LAY (shA A) (shF F), 0, 0)) hc148 2 rfl trivial ?_
  refine R_cv hc148 rfl rfl ?_ (fun r G h => h)
  refine R_s (P := inI ((F 0) - 1) ∧ True) (f' := (8, [some (vR 88), some (vI 3)], [vI ((F 0) - 1), vI 0, vI 3], LAY (shA A) (shF F), 0, 0)) hc108 6 rfl ⟨⟨by omega, by omega⟩, trivial⟩ ?_
  refine R_cs hc108 rfl rfl ?_ (fun r G h => h)
  refine R_s (P := True) (f' := (2, [some (vI 3), some (vI 0), some (vI ((F 0) - 1))], [vI 0, vI 3], LAY (shA A) (shF F), 0, 0)) hc104 2 rfl trivial ?_
  refine R_ic (t := 14) hc104 rfl rfl (fun (z : 3 < 0) => absurd z (by decide)) (fun (_ : ¬ (3 < 0)) => ?_)
  refine R_s (P := True) (f' := (7, [some (vI 3), some (vI 0), some (vI ((F 0) - 1))], [vI ((F 0) - 1), vI 3], LAY (shA A) (shF F), 0, 0)) hc104 2 rfl trivial ?_
  refine R_ic (t := 14) hc104 rfl rfl (fun (z : (F 0) - 1 < 3) => absurd z (by omega)) (fun (_ : ¬ ((F 0) - 1 < 3)) => ?_)
  refine R_s (P := True) (f' := (15, [some (vI 3), some (vI 0), some (vI ((F 0) - 1))], [vI 1], LAY (shA A) (shF F), 0, 0)) hc104 2 rfl trivial ?_
  refine R_retz hc104 rfl rfl (Or.inr rfl) ?_
  refine R_s (f' := (11, [some (vR 88), some (vI 3)], [vI 1], LAY (shA A) (shF F), 0, 0)) hc108 0 rfl trivial ?_
  refine R_retz hc108 rfl rfl (Or.inr rfl) ?_
  refine R_s (f' := (5, [some (vR 88), some (vI 3)], [vI 1], LAY (shA A) (shF F), 0, 0)) hc148 0 rfl trivial ?_
  refine R_if (t := 16) hc148 rfl rfl (fun (z : 1 = 0) => absurd z (by decide)) (fun (_ : ¬ (1 = 0)) => ?_)
  refine R_s (P := True) (f' := (10, [some (vR 88), some (vI 3)], [vI 3, vR 88], LAY (shA A) (shF F), 0, 0)) hc148 2 rfl trivial ?_
  refine R_cv hc148 rfl rfl (l_yieldM' (A := (shA A)) (F := (shF F)) ⟨t1, t2⟩ (hL 14 (by decide)) (hL 15 (by decide)) (hL 16 (by decide)) 3 (by decide) (fun i hi => by have z := R_prod hR0 (d := 3) (by decide) i hi; rw [show (i : Int) * 6 + 3 = 6 * (i : Int) + 3 by omega] at z; exact z)) (fun r G9 hp9 => ?_)
  obtain ⟨e1, rfl⟩ := hp9
  have e2 : r = some (vI (N_Y A F 3)) := by
    rw [← N_Y_m]
    exact e1
  clear e1
  subst e2
  refine R_s (f' := (13, [some (vR 88), some (vI 3)], [vI (N_Y A F 3)], LAY (shA A) (shF F), 0, 0)) hc148 0 rfl trivial ?_
  refine R_s (P := True) (f' := (22, [some (vR 88), some (vI 3)], [vI (N_Y A F 3)], LAY (shA A) (shF F), 0, 0)) hc148 1 rfl trivial ?_
  refine R_reti hc148 rfl rfl ?_
  first
    | (exfalso; omega; done)
    | exact ⟨rfl, A, F, rfl, rfl, REL_c hR0⟩

theorem op_yields_4 {c : Int} {A : Nat → List Int} {F : Nat → Int} (hR : REL c A F) (hc : c < 512) (hd : (4 : Int) < F 0) : R 74 (0, L0 74 [vR 1, vI 4], [], LAY (shA A) (shF F), 0, 0) (fun r G => (∃ x, r = some (vI x)) ∧ (∃ (A1 : Nat → List Int) (F1 : Nat → Int), G = LAY A1 F1 ∧ A1 0 = A 0) ∧ R 148 (0, L0 148 [vR 88, vI 4], [], G, 0, 0) (fun r2 G2 => r2 = r ∧ ∃ (A' : Nat → List Int) (F' : Nat → Int), G2 = LAY (shA A') (shF F') ∧ A' 0 = A 0 ∧ REL (c + 1) A' F')) := by
  have hR0 := hR
  obtain ⟨hL, hPE, hTH, hTP, hDE, hLE, hNO, hAC, hRO, hRE⟩ := hR
  have h87 : (A 87).length = 9 := hL 87 (by decide)
  have h99 : (A 99).length = 6 := hL 99 (by decide)
  have r2 := REFU_at hRE (k := 2) (by decide) (by decide) hc
  have r3 := REFU_at hRE (k := 3) (by decide) (by decide) hc
  have r4 := REFU_at hRE (k := 4) (by decide) (by decide) hc
  have r5 := REFU_at hRE (k := 5) (by decide) (by decide) hc
  have r6 := REFU_at hRE (k := 6) (by decide) (by decide) hc
  have r7 := REFU_at hRE (k := 7) (by decide) (by decide) hc
  have r8 := REFU_at hRE (k := 8) (by decide) (by decide) hc
  obtain ⟨t1, t2, t3, t4, t5, t6⟩ := hTH
  obtain ⟨p1, p2, p3, p4, p5, p6⟩ := hPE
  refine R_s (P := True) (f' := (2, [some (vR 1), some (vI 4)], [vI 4, vR 1], LAY (shA A) (shF F), 0, 0)) hc74 2 rfl trivial ?_
  refine R_cv hc74 rfl rfl ?_ (fun r G h => h)
  refine R_s (P := True) (f' := (1, [some (vR 1), some (vI 4)], [vI 4], LAY (shA A) (shF F), 0, 0)) hc98 1 rfl trivial ?_
  refine R_if (t := 16) hc98 rfl rfl (fun (z : 4 < 0) => absurd z (by decide)) (fun (_ : ¬ (4 < 0)) => ?_)
  refine R_s (P := True) (f' := (9, [some (vR 1), some (vI 4)], [vI (F 0), vI 4], LAY (shA A) (shF F), 0, 0)) hc98 3 rfl trivial ?_
  refine R_ic (t := 16) hc98 rfl rfl (fun (z : F 0 ≤ 4) => absurd z (by omega)) (fun (_ : ¬ (F 0 ≤ 4)) => ?_)
  refine R_s (P := True) (f' := (17, [some (vR 1), some (vI 4)], [vI 1], LAY (shA A) (shF F), 0, 0)) hc98 2 rfl trivial ?_
  refine R_retz hc98 rfl rfl (Or.inr rfl) ?_
  refine R_s (f' := (5, [some (vR 1), some (vI 4)], [vI 1], LAY (shA A) (shF F), 0, 0)) hc74 0 rfl trivial ?_
  refine R_if (t := 15) hc74 rfl rfl (fun (_ : ¬ 1 = 0) => ?_) (fun (z : ¬ (¬ 1 = 0)) => absurd (by decide) z)
  refine R_s (P := True) (f' := (20, [some (vR 1), some (vI 4)], [vI 4, vR 12], LAY (shA A) (shF F), 0, 0)) hc74 3 rfl trivial ?_
  refine R_cv hc74 rfl rfl (l_yieldC (A := (shA A)) (F := (shF F)) (LENS_sh hL) ⟨t1, t2⟩ 4 (by decide) (fun i hi => R_prod hR0 (d := 4) (by decide) i hi)) (fun r G9 hp9 => ?_)
  obtain ⟨e1, rfl⟩ := hp9
  have e2 : r = some (vI (N_Y A F 4)) := e1
  clear e1
  subst e2
  refine R_s (f' := (23, [some (vR 1), some (vI 4)], [vI (N_Y A F 4)], LAY (shA A) (shF F), 0, 0)) hc74 0 rfl trivial ?_
  refine R_reti hc74 rfl rfl ⟨⟨_, rfl⟩, ⟨_, _, rfl, rfl⟩, ?_⟩
  refine R_s (P := True) (f' := (2, [some (vR 88), some (vI 4)], [vI 4, vR 88], LAY (shA A) (shF F), 0, 0)) hc148 2 rfl trivial ?_
  refine R_cv hc148 rfl rfl ?_ (fun r G h => h)
  refine R_s (P := inI ((F 0) - 1) ∧ True) (f' := (8, [some (vR 88), some (vI 4)], [vI ((F 0) - 1), vI 0, vI 4], LAY (shA A) (shF F), 0, 0)) hc108 6 rfl ⟨⟨by omega, by omega⟩, trivial⟩ ?_
  refine R_cs hc108 rfl rfl ?_ (fun r G h => h)
  refine R_s (P := True) (f' := (2, [some (vI 4), some (vI 0), some (vI ((F 0) - 1))], [vI 0, vI 4], LAY (shA A) (shF F), 0, 0)) hc104 2 rfl trivial ?_
  refine R_ic (t := 14) hc104 rfl rfl (fun (z : 4 < 0) => absurd z (by decide)) (fun (_ : ¬ (4 < 0)) => ?_)
  refine R_s (P := True) (f' := (7, [some (vI 4), some (vI 0), some (vI ((F 0) - 1))], [vI ((F 0) - 1), vI 4], LAY (shA A) (shF F), 0, 0)) hc104 2 rfl trivial ?_
  refine R_ic (t := 14) hc104 rfl rfl (fun (z : (F 0) - 1 < 4) => absurd z (by omega)) (fun (_ : ¬ ((F 0) - 1 < 4)) => ?_)
  refine R_s (P := True) (f' := (15, [some (vI 4), some (vI 0), some (vI ((F 0) - 1))], [vI 1], LAY (shA A) (shF F), 0, 0)) hc104 2 rfl trivial ?_
  refine R_retz hc104 rfl rfl (Or.inr rfl) ?_
  refine R_s (f' := (11, [some (vR 88), some (vI 4)], [vI 1], LAY (shA A) (shF F), 0, 0)) hc108 0 rfl trivial ?_
  refine R_retz hc108 rfl rfl (Or.inr rfl) ?_
  refine R_s (f' := (5, [some (vR 88), some (vI 4)], [vI 1], LAY (shA A) (shF F), 0, 0)) hc148 0 rfl trivial ?_
  refine R_if (t := 16) hc148 rfl rfl (fun (z : 1 = 0) => absurd z (by decide)) (fun (_ : ¬ (1 = 0)) => ?_)
  refine R_s (P := True) (f' := (10, [some (vR 88), some (vI 4)], [vI 4, vR 88], LAY (shA A) (shF F), 0, 0)) hc148 2 rfl trivial ?_
  refine R_cv hc148 rfl rfl (l_yieldM' (A := (shA A)) (F := (shF F)) ⟨t1, t2⟩ (hL 14 (by decide)) (hL 15 (by decide)) (hL 16 (by decide)) 4 (by decide) (fun i hi => by have z := R_prod hR0 (d := 4) (by decide) i hi; rw [show (i : Int) * 6 + 4 = 6 * (i : Int) + 4 by omega] at z; exact z)) (fun r G9 hp9 => ?_)
  obtain ⟨e1, rfl⟩ := hp9
  have e2 : r = some (vI (N_Y A F 4)) := by
    rw [← N_Y_m]
    exact e1
  clear e1
  subst e2
  refine R_s (f' := (13, [some (vR 88), some (vI 4)], [vI (N_Y A F 4)], LAY (shA A) (shF F), 0, 0)) hc148 0 rfl trivial ?_
  refine R_s (P := True) (f' := (22, [some (vR 88), some (vI 4)], [vI (N_Y A F 4)], LAY (shA A) (shF F), 0, 0)) hc148 1 rfl trivial ?_
  refine R_reti hc148 rfl rfl ?_
  first
    | (exfalso; omega; done)
    | exact ⟨rfl, A, F, rfl, rfl, REL_c hR0⟩

theorem op_yields_5 {c : Int} {A : Nat → List Int} {F : Nat → Int} (hR : REL c A F) (hc : c < 512) (hd : (5 : Int) < F 0) : R 74 (0, L0 74 [vR 1, vI 5], [], LAY (shA A) (shF F), 0, 0) (fun r G => (∃ x, r = some (vI x)) ∧ (∃ (A1 : Nat → List Int) (F1 : Nat → Int), G = LAY A1 F1 ∧ A1 0 = A 0) ∧ R 148 (0, L0 148 [vR 88, vI 5], [], G, 0, 0) (fun r2 G2 => r2 = r ∧ ∃ (A' : Nat → List Int) (F' : Nat → Int), G2 = LAY (shA A') (shF F') ∧ A' 0 = A 0 ∧ REL (c + 1) A' F')) := by
  have hR0 := hR
  obtain ⟨hL, hPE, hTH, hTP, hDE, hLE, hNO, hAC, hRO, hRE⟩ := hR
  have h87 : (A 87).length = 9 := hL 87 (by decide)
  have h99 : (A 99).length = 6 := hL 99 (by decide)
  have r2 := REFU_at hRE (k := 2) (by decide) (by decide) hc
  have r3 := REFU_at hRE (k := 3) (by decide) (by decide) hc
  have r4 := REFU_at hRE (k := 4) (by decide) (by decide) hc
  have r5 := REFU_at hRE (k := 5) (by decide) (by decide) hc
  have r6 := REFU_at hRE (k := 6) (by decide) (by decide) hc
  have r7 := REFU_at hRE (k := 7) (by decide) (by decide) hc
  have r8 := REFU_at hRE (k := 8) (by decide) (by decide) hc
  obtain ⟨t1, t2, t3, t4, t5, t6⟩ := hTH
  obtain ⟨p1, p2, p3, p4, p5, p6⟩ := hPE
  refine R_s (P := True) (f' := (2, [some (vR 1), some (vI 5)], [vI 5, vR 1], LAY (shA A) (shF F), 0, 0)) hc74 2 rfl trivial ?_
  refine R_cv hc74 rfl rfl ?_ (fun r G h => h)
  refine R_s (P := True) (f' := (1, [some (vR 1), some (vI 5)], [vI 5], LAY (shA A) (shF F), 0, 0)) hc98 1 rfl trivial ?_
  refine R_if (t := 16) hc98 rfl rfl (fun (z : 5 < 0) => absurd z (by decide)) (fun (_ : ¬ (5 < 0)) => ?_)
  refine R_s (P := True) (f' := (9, [some (vR 1), some (vI 5)], [vI (F 0), vI 5], LAY (shA A) (shF F), 0, 0)) hc98 3 rfl trivial ?_
  refine R_ic (t := 16) hc98 rfl rfl (fun (z : F 0 ≤ 5) => absurd z (by omega)) (fun (_ : ¬ (F 0 ≤ 5)) => ?_)
  refine R_s (P := True) (f' := (17, [some (vR 1), some (vI 5)], [vI 1], LAY (shA A) (shF F), 0, 0)) hc98 2 rfl trivial ?_
  refine R_retz hc98 rfl rfl (Or.inr rfl) ?_
  refine R_s (f' := (5, [some (vR 1), some (vI 5)], [vI 1], LAY (shA A) (shF F), 0, 0)) hc74 0 rfl trivial ?_
  refine R_if (t := 15) hc74 rfl rfl (fun (_ : ¬ 1 = 0) => ?_) (fun (z : ¬ (¬ 1 = 0)) => absurd (by decide) z)
  refine R_s (P := True) (f' := (20, [some (vR 1), some (vI 5)], [vI 5, vR 12], LAY (shA A) (shF F), 0, 0)) hc74 3 rfl trivial ?_
  refine R_cv hc74 rfl rfl (l_yieldC (A := (shA A)) (F := (shF F)) (LENS_sh hL) ⟨t1, t2⟩ 5 (by decide) (fun i hi => R_prod hR0 (d := 5) (by decide) i hi)) (fun r G9 hp9 => ?_)
  obtain ⟨e1, rfl⟩ := hp9
  have e2 : r = some (vI (N_Y A F 5)) := e1
  clear e1
  subst e2
  refine R_s (f' := (23, [some (vR 1), some (vI 5)], [vI (N_Y A F 5)], LAY (shA A) (shF F), 0, 0)) hc74 0 rfl trivial ?_
  refine R_reti hc74 rfl rfl ⟨⟨_, rfl⟩, ⟨_, _, rfl, rfl⟩, ?_⟩
  refine R_s (P := True) (f' := (2, [some (vR 88), some (vI 5)], [vI 5, vR 88], LAY (shA A) (shF F), 0, 0)) hc148 2 rfl trivial ?_
  refine R_cv hc148 rfl rfl ?_ (fun r G h => h)
  refine R_s (P := inI ((F 0) - 1) ∧ True) (f' := (8, [some (vR 88), some (vI 5)], [vI ((F 0) - 1), vI 0, vI 5], LAY (shA A) (shF F), 0, 0)) hc108 6 rfl ⟨⟨by omega, by omega⟩, trivial⟩ ?_
  refine R_cs hc108 rfl rfl ?_ (fun r G h => h)
  refine R_s (P := True) (f' := (2, [some (vI 5), some (vI 0), some (vI ((F 0) - 1))], [vI 0, vI 5], LAY (shA A) (shF F), 0, 0)) hc104 2 rfl trivial ?_
  refine R_ic (t := 14) hc104 rfl rfl (fun (z : 5 < 0) => absurd z (by decide)) (fun (_ : ¬ (5 < 0)) => ?_)
  refine R_s (P := True) (f' := (7, [some (vI 5), some (vI 0), some (vI ((F 0) - 1))], [vI ((F 0) - 1), vI 5], LAY (shA A) (shF F), 0, 0)) hc104 2 rfl trivial ?_
  refine R_ic (t := 14) hc104 rfl rfl (fun (z : (F 0) - 1 < 5) => absurd z (by omega)) (fun (_ : ¬ ((F 0) - 1 < 5)) => ?_)
  refine R_s (P := True) (f' := (15, [some (vI 5), some (vI 0), some (vI ((F 0) - 1))], [vI 1], LAY (shA A) (shF F), 0, 0)) hc104 2 rfl trivial ?_
  refine R_retz hc104 rfl rfl (Or.inr rfl) ?_
  refine R_s (f' := (11, [some (vR 88), some (vI 5)], [vI 1], LAY (shA A) (shF F), 0, 0)) hc108 0 rfl trivial ?_
  refine R_retz hc108 rfl rfl (Or.inr rfl) ?_
  refine R_s (f' := (5, [some (vR 88), some (vI 5)], [vI 1], LAY (shA A) (shF F), 0, 0)) hc148 0 rfl trivial ?_
  refine R_if (t := 16) hc148 rfl rfl (fun (z : 1 = 0) => absurd z (by decide)) (fun (_ : ¬ (1 = 0)) => ?_)
  refine R_s (P := True) (f' := (10, [some (vR 88), some (vI 5)], [vI 5, vR 88], LAY (shA A) (shF F), 0, 0)) hc148 2 rfl trivial ?_
  refine R_cv hc148 rfl rfl (l_yieldM' (A := (shA A)) (F := (shF F)) ⟨t1, t2⟩ (hL 14 (by decide)) (hL 15 (by decide)) (hL 16 (by decide)) 5 (by decide) (fun i hi => by have z := R_prod hR0 (d := 5) (by decide) i hi; rw [show (i : Int) * 6 + 5 = 6 * (i : Int) + 5 by omega] at z; exact z)) (fun r G9 hp9 => ?_)
  obtain ⟨e1, rfl⟩ := hp9
  have e2 : r = some (vI (N_Y A F 5)) := by
    rw [← N_Y_m]
    exact e1
  clear e1
  subst e2
  refine R_s (f' := (13, [some (vR 88), some (vI 5)], [vI (N_Y A F 5)], LAY (shA A) (shF F), 0, 0)) hc148 0 rfl trivial ?_
  refine R_s (P := True) (f' := (22, [some (vR 88), some (vI 5)], [vI (N_Y A F 5)], LAY (shA A) (shF F), 0, 0)) hc148 1 rfl trivial ?_
  refine R_reti hc148 rfl rfl ?_
  first
    | (exfalso; omega; done)
    | exact ⟨rfl, A, F, rfl, rfl, REL_c hR0⟩

theorem op_yields {c : Int} {A : Nat → List Int} {F : Nat → Int} (hR : REL c A F) (hc : c < 512) (d : Int) (i_d : inI d) : R 74 (0, L0 74 [vR 1, vI d], [], LAY (shA A) (shF F), 0, 0) (fun r G => (∃ x, r = some (vI x)) ∧ (∃ (A1 : Nat → List Int) (F1 : Nat → Int), G = LAY A1 F1 ∧ A1 0 = A 0) ∧ R 148 (0, L0 148 [vR 88, vI d], [], G, 0, 0) (fun r2 G2 => r2 = r ∧ ∃ (A' : Nat → List Int) (F' : Nat → Int), G2 = LAY (shA A') (shF F') ∧ A' 0 = A 0 ∧ REL (c + 1) A' F')) := by
  by_cases h0 : d < 0
  · exact op_yields_n hR hc d i_d h0
  by_cases h1 : F 0 ≤ d
  · exact op_yields_b hR hc d i_d ⟨by omega, h1⟩
  have h6 := hR.2.2.2.2.1.1.2
  obtain e | e | e | e | e | e : d = 0 ∨ d = 1 ∨ d = 2 ∨ d = 3 ∨ d = 4 ∨ d = 5 := by omega
  all_goals subst e
  · exact op_yields_0 hR hc   (by omega)
  · exact op_yields_1 hR hc   (by omega)
  · exact op_yields_2 hR hc   (by omega)
  · exact op_yields_3 hR hc   (by omega)
  · exact op_yields_4 hR hc   (by omega)
  · exact op_yields_5 hR hc   (by omega)

theorem op_lay_n {c : Int} {A : Nat → List Int} {F : Nat → Int} (hR : REL c A F) (hc : c < 512) (d : Int) (i_d : inI d) (hd : d < 0) : R 88 (0, L0 88 [vR 1, vI d], [], LAY (shA A) (shF F), 0, 0) (fun r G => (∃ x, r = some (vI x)) ∧ (∃ (A1 : Nat → List Int) (F1 : Nat → Int), G = LAY A1 F1 ∧ A1 0 = A 0) ∧ R 164 (0, L0 164 [vR 88, vI d], [], G, 0, 0) (fun r2 G2 => r2 = r ∧ ∃ (A' : Nat → List Int) (F' : Nat → Int), G2 = LAY (shA A') (shF F') ∧ A' 0 = A 0 ∧ REL (c + 1) A' F')) := by
  have hR0 := hR
  obtain ⟨hL, hPE, hTH, hTP, hDE, hLE, hNO, hAC, hRO, hRE⟩ := hR
  have j_d := i_d
  unfold inI at j_d
  have h87 : (A 87).length = 9 := hL 87 (by decide)
  have r2 := REFU_at hRE (k := 2) (by decide) (by decide) hc
  have r3 := REFU_at hRE (k := 3) (by decide) (by decide) hc
  have r4 := REFU_at hRE (k := 4) (by decide) (by decide) hc
  have r5 := REFU_at hRE (k := 5) (by decide) (by decide) hc
  have r6 := REFU_at hRE (k := 6) (by decide) (by decide) hc
  have r7 := REFU_at hRE (k := 7) (by decide) (by decide) hc
  have r8 := REFU_at hRE (k := 8) (by decide) (by decide) hc
  obtain ⟨t1, t2, t3, t4, t5, t6⟩ := hTH
  obtain ⟨p1, p2, p3, p4, p5, p6⟩ := hPE
  refine R_s (P := True) (f' := (2, [some (vR 1), some (vI d), none, none], [vI d, vR 1], LAY (shA A) (shF F), 0, 0)) hc88 2 rfl trivial ?_
  refine R_cv hc88 rfl rfl ?_ (fun r G h => h)
  refine R_s (P := True) (f' := (2, [some (vR 1), some (vI d)], [vI d, vR 1], LAY (shA A) (shF F), 0, 0)) hc99 2 rfl trivial ?_
  refine R_cv hc99 rfl rfl ?_ (fun r G h => h)
  refine R_s (P := True) (f' := (1, [some (vR 1), some (vI d)], [vI d], LAY (shA A) (shF F), 0, 0)) hc98 1 rfl trivial ?_
  refine R_if (t := 16) hc98 rfl rfl (fun (_ : d < 0) => ?_) (fun (z : ¬ (d < 0)) => absurd (show d < 0 by omega) z)
  refine R_s (P := True) (f' := (17, [some (vR 1), some (vI d)], [vI 0], LAY (shA A) (shF F), 0, 0)) hc98 1 rfl trivial ?_
  refine R_retz hc98 rfl rfl (Or.inl rfl) ?_
  refine R_s (f' := (5, [some (vR 1), some (vI d)], [vI 0], LAY (shA A) (shF F), 0, 0)) hc99 0 rfl trivial ?_
  refine R_if (t := 17) hc99 rfl rfl (fun (_ : 0 = 0) => ?_) (fun (z : ¬ (0 = 0)) => absurd (by decide) z)
  refine R_s (P := True) (f' := (18, [some (vR 1), some (vI d)], [vN], LAY (shA A) (shF F), 0, 0)) hc99 1 rfl trivial ?_
  refine R_reta hc99 rfl rfl ?_
  refine R_s (f' := (5, [some (vR 1), some (vI d), none, none], [vN], LAY (shA A) (shF F), 0, 0)) hc88 0 rfl trivial ?_
  refine R_s (P := True) (f' := (13, [some (vR 1), some (vI d), some (vN), none], [vI (-3), vR 1], LAY (shA A) (shF F), 0, 0)) hc88 5 rfl trivial ?_
  refine R_cv hc88 rfl rfl ?_ (fun r G h => h)
  refine R_s (P := True) (f' := (3, [some (vR 1), some (vI (-3))], [vI (-2), vI (-3)], LAY (shA A) (shF F), 0, 0)) hc93 2 rfl trivial ?_
  refine R_ic (t := 23) hc93 rfl rfl (fun (z : (-2) < (-3)) => absurd z (by decide)) (fun (_ : ¬ ((-2) < (-3))) => ?_)
  refine R_s (P := True) (f' := (9, [some (vR 1), some (vI (-3))], [vI (-8), vI (-3)], LAY (shA A) (shF F), 0, 0)) hc93 2 rfl trivial ?_
  refine R_ic (t := 23) hc93 rfl rfl (fun (z : (-3) < (-8)) => absurd z (by decide)) (fun (_ : ¬ ((-3) < (-8))) => ?_)
  refine R_s (P := inI 3 ∧ (0 ≤ 3 ∧ 3 < ((A 87).length : Int)) ∧ inI ((rd (A 87) 3) + 1) ∧ (0 ≤ 3 ∧ 3 < ((A 87).length : Int)) ∧ True) (f' := (24, [some (vR 1), some (vI (-3))], [vI (-3)], LAY (u (shA A) 87 (wr (A 87) 3 ((rd (A 87) 3) + 1))) (shF F), 0, 0)) hc93 10 rfl ⟨⟨by omega, by omega⟩, ⟨by omega, by omega⟩, ⟨by omega, by omega⟩, ⟨by omega, by omega⟩, trivial⟩ ?_
  refine R_reti hc93 rfl rfl ?_
  refine R_s (f' := (16, [some (vR 1), some (vI d), some (vN), none], [vI (-3)], LAY (u (shA A) 87 (wr (A 87) 3 ((rd (A 87) 3) + 1))) (shF F), 0, 0)) hc88 0 rfl trivial ?_
  refine R_reti hc88 rfl rfl ⟨⟨_, rfl⟩, ⟨_, _, rfl, rfl⟩, ?_⟩
  refine R_s (P := True) (f' := (2, [some (vR 88), some (vI d), none], [vI d, vR 88], LAY (u (shA A) 87 (wr (A 87) 3 ((rd (A 87) 3) + 1))) (shF F), 0, 0)) hc164 2 rfl trivial ?_
  refine R_cv hc164 rfl rfl ?_ (fun r G h => h)
  refine R_s (P := inI ((F 0) - 1) ∧ True) (f' := (8, [some (vR 88), some (vI d)], [vI ((F 0) - 1), vI 0, vI d], LAY (u (shA A) 87 (wr (A 87) 3 ((rd (A 87) 3) + 1))) (shF F), 0, 0)) hc108 6 rfl ⟨⟨by omega, by omega⟩, trivial⟩ ?_
  refine R_cs hc108 rfl rfl ?_ (fun r G h => h)
  refine R_s (P := True) (f' := (2, [some (vI d), some (vI 0), some (vI ((F 0) - 1))], [vI 0, vI d], LAY (u (shA A) 87 (wr (A 87) 3 ((rd (A 87) 3) + 1))) (shF F), 0, 0)) hc104 2 rfl trivial ?_
  refine R_ic (t := 14) hc104 rfl rfl (fun (_ : d < 0) => ?_) (fun (z : ¬ (d < 0)) => absurd (show d < 0 by omega) z)
  refine R_s (P := True) (f' := (15, [some (vI d), some (vI 0), some (vI ((F 0) - 1))], [vI 0], LAY (u (shA A) 87 (wr (A 87) 3 ((rd (A 87) 3) + 1))) (shF F), 0, 0)) hc104 1 rfl trivial ?_
  refine R_retz hc104 rfl rfl (Or.inl rfl) ?_
  refine R_s (f' := (11, [some (vR 88), some (vI d)], [vI 0], LAY (u (shA A) 87 (wr (A 87) 3 ((rd (A 87) 3) + 1))) (shF F), 0, 0)) hc108 0 rfl trivial ?_
  refine R_retz hc108 rfl rfl (Or.inl rfl) ?_
  refine R_s (f' := (5, [some (vR 88), some (vI d), none], [vI 0], LAY (u (shA A) 87 (wr (A 87) 3 ((rd (A 87) 3) + 1))) (shF F), 0, 0)) hc164 0 rfl trivial ?_
  refine R_if (t := 15) hc164 rfl rfl (fun (z : ¬ 0 = 0) => absurd z (by decide)) (fun (_ : ¬ (¬ 0 = 0)) => ?_)
  refine R_s (P := True) (f' := (11, [some (vR 88), some (vI d), none], [vI (-3), vR 88], LAY (u (shA A) 87 (wr (A 87) 3 ((rd (A 87) 3) + 1))) (shF F), 0, 0)) hc164 2 rfl trivial ?_
  refine R_cv hc164 rfl rfl ?_ (fun r G h => h)
  refine R_s (P := inI 3 ∧ (0 ≤ 3 ∧ 3 < ((A 87).length : Int)) ∧ inI ((rd (A 87) 3) + 1) ∧ (0 ≤ 3 ∧ 3 < ((A 87).length : Int)) ∧ True) (f' := (12, [some (vR 88), some (vI (-3))], [vI (-3)], LAY (u (u (shA A) 87 (wr (A 87) 3 ((rd (A 87) 3) + 1))) 89 (wr (A 87) 3 ((rd (A 87) 3) + 1))) (shF F), 0, 0)) hc105 10 rfl ⟨⟨by omega, by omega⟩, ⟨by omega, by omega⟩, ⟨by omega, by omega⟩, ⟨by omega, by omega⟩, trivial⟩ ?_
  refine R_reti hc105 rfl rfl ?_
  refine R_s (f' := (14, [some (vR 88), some (vI d), none], [vI (-3)], LAY (u (u (shA A) 87 (wr (A 87) 3 ((rd (A 87) 3) + 1))) 89 (wr (A 87) 3 ((rd (A 87) 3) + 1))) (shF F), 0, 0)) hc164 0 rfl trivial ?_
  refine R_reti hc164 rfl rfl ?_
  first
    | (exfalso; omega; done)
    | exact ⟨rfl, (u A 87 (wr (A 87) 3 ((rd (A 87) 3) + 1))), F, rfl, rfl, REL_ref hR0 (by decide) (by decide)⟩

theorem op_lay_b {c : Int} {A : Nat → List Int} {F : Nat → Int} (hR : REL c A F) (hc : c < 512) (d : Int) (i_d : inI d) (hd : 0 ≤ d ∧ F 0 ≤ d) : R 88 (0, L0 88 [vR 1, vI d], [], LAY (shA A) (shF F), 0, 0) (fun r G => (∃ x, r = some (vI x)) ∧ (∃ (A1 : Nat → List Int) (F1 : Nat → Int), G = LAY A1 F1 ∧ A1 0 = A 0) ∧ R 164 (0, L0 164 [vR 88, vI d], [], G, 0, 0) (fun r2 G2 => r2 = r ∧ ∃ (A' : Nat → List Int) (F' : Nat → Int), G2 = LAY (shA A') (shF F') ∧ A' 0 = A 0 ∧ REL (c + 1) A' F')) := by
  have hR0 := hR
  obtain ⟨hL, hPE, hTH, hTP, hDE, hLE, hNO, hAC, hRO, hRE⟩ := hR
  have j_d := i_d
  unfold inI at j_d
  have h87 : (A 87).length = 9 := hL 87 (by decide)
  have r2 := REFU_at hRE (k := 2) (by decide) (by decide) hc
  have r3 := REFU_at hRE (k := 3) (by decide) (by decide) hc
  have r4 := REFU_at hRE (k := 4) (by decide) (by decide) hc
  have r5 := REFU_at hRE (k := 5) (by decide) (by decide) hc
  have r6 := REFU_at hRE (k := 6) (by decide) (by decide) hc
  have r7 := REFU_at hRE (k := 7) (by decide) (by decide) hc
  have r8 := REFU_at hRE (k := 8) (by decide) (by decide) hc
  obtain ⟨t1, t2, t3, t4, t5, t6⟩ := hTH
  obtain ⟨p1, p2, p3, p4, p5, p6⟩ := hPE
  refine R_s (P := True) (f' := (2, [some (vR 1), some (vI d), none, none], [vI d, vR 1], LAY (shA A) (shF F), 0, 0)) hc88 2 rfl trivial ?_
  refine R_cv hc88 rfl rfl ?_ (fun r G h => h)
  refine R_s (P := True) (f' := (2, [some (vR 1), some (vI d)], [vI d, vR 1], LAY (shA A) (shF F), 0, 0)) hc99 2 rfl trivial ?_
  refine R_cv hc99 rfl rfl ?_ (fun r G h => h)
  refine R_s (P := True) (f' := (1, [some (vR 1), some (vI d)], [vI d], LAY (shA A) (shF F), 0, 0)) hc98 1 rfl trivial ?_
  refine R_if (t := 16) hc98 rfl rfl (fun (z : d < 0) => absurd z (by omega)) (fun (_ : ¬ (d < 0)) => ?_)
  refine R_s (P := True) (f' := (9, [some (vR 1), some (vI d)], [vI (F 0), vI d], LAY (shA A) (shF F), 0, 0)) hc98 3 rfl trivial ?_
  refine R_ic (t := 16) hc98 rfl rfl (fun (_ : F 0 ≤ d) => ?_) (fun (z : ¬ (F 0 ≤ d)) => absurd (show F 0 ≤ d by omega) z)
  refine R_s (P := True) (f' := (17, [some (vR 1), some (vI d)], [vI 0], LAY (shA A) (shF F), 0, 0)) hc98 1 rfl trivial ?_
  refine R_retz hc98 rfl rfl (Or.inl rfl) ?_
  refine R_s (f' := (5, [some (vR 1), some (vI d)], [vI 0], LAY (shA A) (shF F), 0, 0)) hc99 0 rfl trivial ?_
  refine R_if (t := 17) hc99 rfl rfl (fun (_ : 0 = 0) => ?_) (fun (z : ¬ (0 = 0)) => absurd (by decide) z)
  refine R_s (P := True) (f' := (18, [some (vR 1), some (vI d)], [vN], LAY (shA A) (shF F), 0, 0)) hc99 1 rfl trivial ?_
  refine R_reta hc99 rfl rfl ?_
  refine R_s (f' := (5, [some (vR 1), some (vI d), none, none], [vN], LAY (shA A) (shF F), 0, 0)) hc88 0 rfl trivial ?_
  refine R_s (P := True) (f' := (13, [some (vR 1), some (vI d), some (vN), none], [vI (-3), vR 1], LAY (shA A) (shF F), 0, 0)) hc88 5 rfl trivial ?_
  refine R_cv hc88 rfl rfl ?_ (fun r G h => h)
  refine R_s (P := True) (f' := (3, [some (vR 1), some (vI (-3))], [vI (-2), vI (-3)], LAY (shA A) (shF F), 0, 0)) hc93 2 rfl trivial ?_
  refine R_ic (t := 23) hc93 rfl rfl (fun (z : (-2) < (-3)) => absurd z (by decide)) (fun (_ : ¬ ((-2) < (-3))) => ?_)
  refine R_s (P := True) (f' := (9, [some (vR 1), some (vI (-3))], [vI (-8), vI (-3)], LAY (shA A) (shF F), 0, 0)) hc93 2 rfl trivial ?_
  refine R_ic (t := 23) hc93 rfl rfl (fun (z : (-3) < (-8)) => absurd z (by decide)) (fun (_ : ¬ ((-3) < (-8))) => ?_)
  refine R_s (P := inI 3 ∧ (0 ≤ 3 ∧ 3 < ((A 87).length : Int)) ∧ inI ((rd (A 87) 3) + 1) ∧ (0 ≤ 3 ∧ 3 < ((A 87).length : Int)) ∧ True) (f' := (24, [some (vR 1), some (vI (-3))], [vI (-3)], LAY (u (shA A) 87 (wr (A 87) 3 ((rd (A 87) 3) + 1))) (shF F), 0, 0)) hc93 10 rfl ⟨⟨by omega, by omega⟩, ⟨by omega, by omega⟩, ⟨by omega, by omega⟩, ⟨by omega, by omega⟩, trivial⟩ ?_
  refine R_reti hc93 rfl rfl ?_
  refine R_s (f' := (16, [some (vR 1), some (vI d), some (vN), none], [vI (-3)], LAY (u (shA A) 87 (wr (A 87) 3 ((rd (A 87) 3) + 1))) (shF F), 0, 0)) hc88 0 rfl trivial ?_
  refine R_reti hc88 rfl rfl ⟨⟨_, rfl⟩, ⟨_, _, rfl, rfl⟩, ?_⟩
  refine R_s (P := True) (f' := (2, [some (vR 88), some (vI d), none], [vI d, vR 88], LAY (u (shA A) 87 (wr (A 87) 3 ((rd (A 87) 3) + 1))) (shF F), 0, 0)) hc164 2 rfl trivial ?_
  refine R_cv hc164 rfl rfl ?_ (fun r G h => h)
  refine R_s (P := inI ((F 0) - 1) ∧ True) (f' := (8, [some (vR 88), some (vI d)], [vI ((F 0) - 1), vI 0, vI d], LAY (u (shA A) 87 (wr (A 87) 3 ((rd (A 87) 3) + 1))) (shF F), 0, 0)) hc108 6 rfl ⟨⟨by omega, by omega⟩, trivial⟩ ?_
  refine R_cs hc108 rfl rfl ?_ (fun r G h => h)
  refine R_s (P := True) (f' := (2, [some (vI d), some (vI 0), some (vI ((F 0) - 1))], [vI 0, vI d], LAY (u (shA A) 87 (wr (A 87) 3 ((rd (A 87) 3) + 1))) (shF F), 0, 0)) hc104 2 rfl trivial ?_
  refine R_ic (t := 14) hc104 rfl rfl (fun (z : d < 0) => absurd z (by omega)) (fun (_ : ¬ (d < 0)) => ?_)
  refine R_s (P := True) (f' := (7, [some (vI d), some (vI 0), some (vI ((F 0) - 1))], [vI ((F 0) - 1), vI d], LAY (u (shA A) 87 (wr (A 87) 3 ((rd (A 87) 3) + 1))) (shF F), 0, 0)) hc104 2 rfl trivial ?_
  refine R_ic (t := 14) hc104 rfl rfl (fun (_ : (F 0) - 1 < d) => ?_) (fun (z : ¬ ((F 0) - 1 < d)) => absurd (show (F 0) - 1 < d by omega) z)
  refine R_s (P := True) (f' := (15, [some (vI d), some (vI 0), some (vI ((F 0) - 1))], [vI 0], LAY (u (shA A) 87 (wr (A 87) 3 ((rd (A 87) 3) + 1))) (shF F), 0, 0)) hc104 1 rfl trivial ?_
  refine R_retz hc104 rfl rfl (Or.inl rfl) ?_
  refine R_s (f' := (11, [some (vR 88), some (vI d)], [vI 0], LAY (u (shA A) 87 (wr (A 87) 3 ((rd (A 87) 3) + 1))) (shF F), 0, 0)) hc108 0 rfl trivial ?_
  refine R_retz hc108 rfl rfl (Or.inl rfl) ?_
  refine R_s (f' := (5, [some (vR 88), some (vI d), none], [vI 0], LAY (u (shA A) 87 (wr (A 87) 3 ((rd (A 87) 3) + 1))) (shF F), 0, 0)) hc164 0 rfl trivial ?_
  refine R_if (t := 15) hc164 rfl rfl (fun (z : ¬ 0 = 0) => absurd z (by decide)) (fun (_ : ¬ (¬ 0 = 0)) => ?_)
  refine R_s (P := True) (f' := (11, [some (vR 88), some (vI d), none], [vI (-3), vR 88], LAY (u (shA A) 87 (wr (A 87) 3 ((rd (A 87) 3) + 1))) (shF F), 0, 0)) hc164 2 rfl trivial ?_
  refine R_cv hc164 rfl rfl ?_ (fun r G h => h)
  refine R_s (P := inI 3 ∧ (0 ≤ 3 ∧ 3 < ((A 87).length : Int)) ∧ inI ((rd (A 87) 3) + 1) ∧ (0 ≤ 3 ∧ 3 < ((A 87).length : Int)) ∧ True) (f' := (12, [some (vR 88), some (vI (-3))], [vI (-3)], LAY (u (u (shA A) 87 (wr (A 87) 3 ((rd (A 87) 3) + 1))) 89 (wr (A 87) 3 ((rd (A 87) 3) + 1))) (shF F), 0, 0)) hc105 10 rfl ⟨⟨by omega, by omega⟩, ⟨by omega, by omega⟩, ⟨by omega, by omega⟩, ⟨by omega, by omega⟩, trivial⟩ ?_
  refine R_reti hc105 rfl rfl ?_
  refine R_s (f' := (14, [some (vR 88), some (vI d), none], [vI (-3)], LAY (u (u (shA A) 87 (wr (A 87) 3 ((rd (A 87) 3) + 1))) 89 (wr (A 87) 3 ((rd (A 87) 3) + 1))) (shF F), 0, 0)) hc164 0 rfl trivial ?_
  refine R_reti hc164 rfl rfl ?_
  first
    | (exfalso; omega; done)
    | exact ⟨rfl, (u A 87 (wr (A 87) 3 ((rd (A 87) 3) + 1))), F, rfl, rfl, REL_ref hR0 (by decide) (by decide)⟩

theorem op_lay_0 {c : Int} {A : Nat → List Int} {F : Nat → Int} (hR : REL c A F) (hc : c < 512) (hd : (0 : Int) < F 0) : R 88 (0, L0 88 [vR 1, vI 0], [], LAY (shA A) (shF F), 0, 0) (fun r G => (∃ x, r = some (vI x)) ∧ (∃ (A1 : Nat → List Int) (F1 : Nat → Int), G = LAY A1 F1 ∧ A1 0 = A 0) ∧ R 164 (0, L0 164 [vR 88, vI 0], [], G, 0, 0) (fun r2 G2 => r2 = r ∧ ∃ (A' : Nat → List Int) (F' : Nat → Int), G2 = LAY (shA A') (shF F') ∧ A' 0 = A 0 ∧ REL (c + 1) A' F')) := by
  have hR0 := hR
  obtain ⟨hL, hPE, hTH, hTP, hDE, hLE, hNO, hAC, hRO, hRE⟩ := hR
  have h87 : (A 87).length = 9 := hL 87 (by decide)
  have h99 : (A 99).length = 6 := hL 99 (by decide)
  have r2 := REFU_at hRE (k := 2) (by decide) (by decide) hc
  have r3 := REFU_at hRE (k := 3) (by decide) (by decide) hc
  have r4 := REFU_at hRE (k := 4) (by decide) (by decide) hc
  have r5 := REFU_at hRE (k := 5) (by decide) (by decide) hc
  have r6 := REFU_at hRE (k := 6) (by decide) (by decide) hc
  have r7 := REFU_at hRE (k := 7) (by decide) (by decide) hc
  have r8 := REFU_at hRE (k := 8) (by decide) (by decide) hc
  obtain ⟨t1, t2, t3, t4, t5, t6⟩ := hTH
  obtain ⟨p1, p2, p3, p4, p5, p6⟩ := hPE
  have hD := D_at0 hR0 hd
  have he1 := hD.1.1
  have he2 := hD.1.2.1
  have hme : rd (A 99) 0 = F 8 := by
    have := hD.2.2.2.2.1
    omega
  obtain ⟨so, te, tp, mg, pm, lo, hS⟩ := SPL_ex A F (N_al A F) (N_Q A 21) (F 8).toNat (N_Y A F 0)
  refine R_s (P := True) (f' := (2, [some (vR 1), some (vI 0), none, none], [vI 0, vR 1], LAY (shA A) (shF F), 0, 0)) hc88 2 rfl trivial ?_
  refine R_cv hc88 rfl rfl ?_ (fun r G h => h)
  refine R_s (P := True) (f' := (2, [some (vR 1), some (vI 0)], [vI 0, vR 1], LAY (shA A) (shF F), 0, 0)) hc99 2 rfl trivial ?_
  refine R_cv hc99 rfl rfl ?_ (fun r G h => h)
  refine R_s (P := True) (f' := (1, [some (vR 1), some (vI 0)], [vI 0], LAY (shA A) (shF F), 0, 0)) hc98 1 rfl trivial ?_
  refine R_if (t := 16) hc98 rfl rfl (fun (z : 0 < 0) => absurd z (by decide)) (fun (_ : ¬ (0 < 0)) => ?_)
  refine R_s (P := True) (f' := (9, [some (vR 1), some (vI 0)], [vI (F 0), vI 0], LAY (shA A) (shF F), 0, 0)) hc98 3 rfl trivial ?_
  refine R_ic (t := 16) hc98 rfl rfl (fun (z : F 0 ≤ 0) => absurd z (by omega)) (fun (_ : ¬ (F 0 ≤ 0)) => ?_)
  refine R_s (P := True) (f' := (17, [some (vR 1), some (vI 0)], [vI 1], LAY (shA A) (shF F), 0, 0)) hc98 2 rfl trivial ?_
  refine R_retz hc98 rfl rfl (Or.inr rfl) ?_
  refine R_s (f' := (5, [some (vR 1), some (vI 0)], [vI 1], LAY (shA A) (shF F), 0, 0)) hc99 0 rfl trivial ?_
  refine R_if (t := 17) hc99 rfl rfl (fun (z : 1 = 0) => absurd z (by decide)) (fun (_ : ¬ (1 = 0)) => ?_)
  refine R_s (P := (0 ≤ (0 : Int) ∧ (0 : Int) < (([some 20, some 29, some 38, some 47, some 56, some 65] : List (Option Nat)).length : Int)) ∧ True) (f' := (18, [some (vR 1), some (vI 0)], [vR 20], LAY (shA A) (shF F), 0, 0)) hc99 5 rfl ⟨(by decide), trivial⟩ ?_
  refine R_reta hc99 rfl rfl ?_
  refine R_s (f' := (5, [some (vR 1), some (vI 0), none, none], [vR 20], LAY (shA A) (shF F), 0, 0)) hc88 0 rfl trivial ?_
  refine R_s (P := True) (f' := (20, [some (vR 1), some (vI 0), some (vR 20), none], [vI 0, vR 20, vR 1], LAY (shA A) (shF F), 0, 0)) hc88 6 rfl trivial ?_
  refine R_cv hc88 rfl rfl (l_now0 hR0 hd hS) (fun r G9 hp9 => ?_)
  obtain ⟨rfl, l8, l9, l10, l11, l75, l76, l77, l78, rfl, k8, k9, k10, k11, k75, k76, k77, k78, v75, v76, v77⟩ := hp9
  refine R_s (f' := (23, [some (vR 1), some (vI 0), some (vR 20), none], [], LAY (u (u (u (u (u (u (u (u (shA A) 8 l8) 9 l9) 10 l10) 11 l11) 75 l75) 76 l76) 77 l77) 78 l78) (u (u (shF F) 14 mg) 15 lo), 0, 0)) hc88 0 rfl trivial ?_
  refine R_s (P := True) (f' := (25, [some (vR 1), some (vI 0), some (vR 20), some (vI 0)], [], LAY (u (u (u (u (u (u (u (u (shA A) 8 l8) 9 l9) 10 l10) 11 l11) 75 l75) 76 l76) 77 l77) 78 l78) (u (u (shF F) 14 mg) 15 lo), 0, 0)) hc88 2 rfl trivial ?_
  refine lay_C (A := (u (u (u (u (u (u (u (u (shA A) 8 l8) 9 l9) 10 l10) 11 l11) 75 l75) 76 l76) 77 l77) 78 l78)) (F := (u (u (shF F) 14 mg) 15 lo)) (n := (F 3).toNat) (R_n hR0) (R_n30 hR0) k77 (hL 86 (by decide)) (fun x l86 k86 v86 v86b => ?_)
  refine R_s (P := True) (f' := (72, [some (vR 1), some (vI 0), some (vR 20), some (vI x)], [vI (F 3)], LAY (u (u (u (u (u (u (u (u (u (shA A) 8 l8) 9 l9) 10 l10) 11 l11) 75 l75) 76 l76) 77 l77) 78 l78) 86 l86) (u (u (u (shF F) 14 mg) 15 lo) 1 (F 3)), 0, 0)) hc88 7 rfl trivial ?_
  refine R_reti hc88 rfl rfl ⟨⟨_, rfl⟩, ⟨_, _, rfl, rfl⟩, ?_⟩
  refine R_s (P := True) (f' := (2, [some (vR 88), some (vI 0), none], [vI 0, vR 88], LAY (u (u (u (u (u (u (u (u (u (shA A) 8 l8) 9 l9) 10 l10) 11 l11) 75 l75) 76 l76) 77 l77) 78 l78) 86 l86) (u (u (u (shF F) 14 mg) 15 lo) 1 (F 3)), 0, 0)) hc164 2 rfl trivial ?_
  refine R_cv hc164 rfl rfl ?_ (fun r G h => h)
  refine R_s (P := inI ((F 0) - 1) ∧ True) (f' := (8, [some (vR 88), some (vI 0)], [vI ((F 0) - 1), vI 0, vI 0], LAY (u (u (u (u (u (u (u (u (u (shA A) 8 l8) 9 l9) 10 l10) 11 l11) 75 l75) 76 l76) 77 l77) 78 l78) 86 l86) (u (u (u (shF F) 14 mg) 15 lo) 1 (F 3)), 0, 0)) hc108 6 rfl ⟨⟨by omega, by omega⟩, trivial⟩ ?_
  refine R_cs hc108 rfl rfl ?_ (fun r G h => h)
  refine R_s (P := True) (f' := (2, [some (vI 0), some (vI 0), some (vI ((F 0) - 1))], [vI 0, vI 0], LAY (u (u (u (u (u (u (u (u (u (shA A) 8 l8) 9 l9) 10 l10) 11 l11) 75 l75) 76 l76) 77 l77) 78 l78) 86 l86) (u (u (u (shF F) 14 mg) 15 lo) 1 (F 3)), 0, 0)) hc104 2 rfl trivial ?_
  refine R_ic (t := 14) hc104 rfl rfl (fun (z : 0 < 0) => absurd z (by decide)) (fun (_ : ¬ (0 < 0)) => ?_)
  refine R_s (P := True) (f' := (7, [some (vI 0), some (vI 0), some (vI ((F 0) - 1))], [vI ((F 0) - 1), vI 0], LAY (u (u (u (u (u (u (u (u (u (shA A) 8 l8) 9 l9) 10 l10) 11 l11) 75 l75) 76 l76) 77 l77) 78 l78) 86 l86) (u (u (u (shF F) 14 mg) 15 lo) 1 (F 3)), 0, 0)) hc104 2 rfl trivial ?_
  refine R_ic (t := 14) hc104 rfl rfl (fun (z : (F 0) - 1 < 0) => absurd z (by omega)) (fun (_ : ¬ ((F 0) - 1 < 0)) => ?_)
  refine R_s (P := True) (f' := (15, [some (vI 0), some (vI 0), some (vI ((F 0) - 1))], [vI 1], LAY (u (u (u (u (u (u (u (u (u (shA A) 8 l8) 9 l9) 10 l10) 11 l11) 75 l75) 76 l76) 77 l77) 78 l78) 86 l86) (u (u (u (shF F) 14 mg) 15 lo) 1 (F 3)), 0, 0)) hc104 2 rfl trivial ?_
  refine R_retz hc104 rfl rfl (Or.inr rfl) ?_
  refine R_s (f' := (11, [some (vR 88), some (vI 0)], [vI 1], LAY (u (u (u (u (u (u (u (u (u (shA A) 8 l8) 9 l9) 10 l10) 11 l11) 75 l75) 76 l76) 77 l77) 78 l78) 86 l86) (u (u (u (shF F) 14 mg) 15 lo) 1 (F 3)), 0, 0)) hc108 0 rfl trivial ?_
  refine R_retz hc108 rfl rfl (Or.inr rfl) ?_
  refine R_s (f' := (5, [some (vR 88), some (vI 0), none], [vI 1], LAY (u (u (u (u (u (u (u (u (u (shA A) 8 l8) 9 l9) 10 l10) 11 l11) 75 l75) 76 l76) 77 l77) 78 l78) 86 l86) (u (u (u (shF F) 14 mg) 15 lo) 1 (F 3)), 0, 0)) hc164 0 rfl trivial ?_
  refine R_if (t := 15) hc164 rfl rfl (fun (_ : ¬ 1 = 0) => ?_) (fun (z : ¬ (¬ 1 = 0)) => absurd (by decide) z)
  refine R_s (P := True) (f' := (17, [some (vR 88), some (vI 0), none], [vI 0, vR 88], LAY (u (u (u (u (u (u (u (u (u (shA A) 8 l8) 9 l9) 10 l10) 11 l11) 75 l75) 76 l76) 77 l77) 78 l78) 86 l86) (u (u (u (shF F) 14 mg) 15 lo) 1 (F 3)), 0, 0)) hc164 2 rfl trivial ?_
  refine R_cv hc164 rfl rfl (l_worksR hR0 (A1 := (u (u (u (u (u (u (u (u (u (shA A) 8 l8) 9 l9) 10 l10) 11 l11) 75 l75) 76 l76) 77 l77) 78 l78) 86 l86)) (F1 := (u (u (u (shF F) 14 mg) 15 lo) 1 (F 3))) rfl rfl rfl rfl rfl rfl rfl rfl rfl rfl rfl rfl rfl (hL 104 (by decide)) (hL 105 (by decide)) (hL 107 (by decide)) (hL 108 (by decide)) (hL 109 (by decide)) (hL 110 (by decide)) (hL 111 (by decide)) hD.1 hD.2 rfl hS) (fun r G9 hp9 => ?_)
  obtain ⟨rfl, l104, l105, l107, l108, l109, l110, l111, ac, rfl, k104, k105, k107, k108, k109, k110, k111, hac, w107, w108⟩ := hp9
  refine R_s (f' := (20, [some (vR 88), some (vI 0), none], [], LAY (u (u (u (u (u (u (u (u (u (u (u (u (u (u (u (u (shA A) 8 l8) 9 l9) 10 l10) 11 l11) 75 l75) 76 l76) 77 l77) 78 l78) 86 l86) 109 l109) 104 l104) 105 l105) 110 l110) 111 l111) 108 l108) 107 l107) (u (u (u (u (u (u (u (shF F) 14 mg) 15 lo) 1 (F 3)) 28 (N_Y A F 0)) 29 ac) 30 mg) 31 lo), 0, 0)) hc164 0 rfl trivial ?_
  refine R_s (P := True) (f' := (30, [some (vR 88), some (vI 0), some (vI 0)], [], LAY (u (u (u (u (u (u (u (u (u (u (u (u (u (u (u (u (shA A) 8 l8) 9 l9) 10 l10) 11 l11) 75 l75) 76 l76) 77 l77) 78 l78) 86 l86) 109 l109) 104 l104) 105 l105) 110 l110) 111 l111) 108 l108) 107 l107) (u (u (u (u (u (u (u (u (shF F) 14 mg) 15 lo) 1 (F 3)) 28 (N_Y A F 0)) 29 ac) 30 mg) 31 lo) 32 (F 3)), 0, 0)) hc164 6 rfl trivial ?_
  refine lay_M (A := (u (u (u (u (u (u (u (u (u (u (u (u (u (u (u (u (shA A) 8 l8) 9 l9) 10 l10) 11 l11) 75 l75) 76 l76) 77 l77) 78 l78) 86 l86) 109 l109) 104 l104) 105 l105) 110 l110) 111 l111) 108 l108) 107 l107)) (F := (u (u (u (u (u (u (u (u (shF F) 14 mg) 15 lo) 1 (F 3)) 28 (N_Y A F 0)) 29 ac) 30 mg) 31 lo) 32 (F 3))) (n := (F 3).toNat) (R_n hR0) (R_n30 hR0) k108 (hL 86 (by decide)) (fun y l112 k112 v112 v112b => ?_)
  have e12 : l112 = l86 := list_ext (by rw [k112, k86]) (fun j hj => by
    by_cases q : j < (F 3).toNat
    · rw [v112 j q, v86 j q]
      exact (w108 j q).trans (v77 j q).symm
    · rw [v112b j (by omega), v86b j (by omega)]
      rfl)
  rw [e12]
  refine R_s (P := True) (f' := (60, [some (vR 88), some (vI 0), some (vI y)], [vI (F 3)], LAY (u (u (u (u (u (u (u (u (u (u (u (u (u (u (u (u (u (shA A) 8 l8) 9 l9) 10 l10) 11 l11) 75 l75) 76 l76) 77 l77) 78 l78) 86 l86) 109 l109) 104 l104) 105 l105) 110 l110) 111 l111) 108 l108) 107 l107) 112 l86) (u (u (u (u (u (u (u (u (shF F) 14 mg) 15 lo) 1 (F 3)) 28 (N_Y A F 0)) 29 ac) 30 mg) 31 lo) 32 (F 3)), 0, 0)) hc164 2 rfl trivial ?_
  refine R_reti hc164 rfl rfl ?_
  first
    | (exfalso; omega; done)
    | exact ⟨rfl, (u (u (u (u (u (u (u (u (u (u (u (u (u (u (u (u A 8 l8) 9 l9) 10 l10) 11 l11) 75 l75) 76 l76) 77 l77) 78 l78) 86 l86) 109 l109) 104 l104) 105 l105) 110 l110) 111 l111) 108 l108) 107 l107), (u (u (u (u (u (u (u F 14 mg) 15 lo) 1 (F 3)) 28 (N_Y A F 0)) 29 ac) 30 mg) 31 lo), rfl, rfl, ⟨(LENS_u (LENS_u (LENS_u (LENS_u (LENS_u (LENS_u (LENS_u (LENS_u (LENS_u (LENS_u (LENS_u (LENS_u (LENS_u (LENS_u (LENS_u (LENS_u hL (by show (l8).length = (A 8).length; rw [k8, hL 8 (by decide)]; rfl)) (by show (l9).length = (A 9).length; rw [k9, hL 9 (by decide)]; rfl)) (by show (l10).length = (A 10).length; rw [k10, hL 10 (by decide)]; rfl)) (by show (l11).length = (A 11).length; rw [k11, hL 11 (by decide)]; rfl)) (by show (l75).length = (A 75).length; rw [k75, hL 75 (by decide)]; rfl)) (by show (l76).length = (A 76).length; rw [k76, hL 76 (by decide)]; rfl)) (by show (l77).length = (A 77).length; rw [k77, hL 77 (by decide)]; rfl)) (by show (l78).length = (A 78).length; rw [k78, hL 78 (by decide)]; rfl)) (by show (l86).length = (A 86).length; rw [k86, hL 86 (by decide)]; rfl)) (by show (l109).length = (A 109).length; rw [k109, hL 109 (by decide)]; rfl)) (by show (l104).length = (A 104).length; rw [k104, hL 104 (by decide)]; rfl)) (by show (l105).length = (A 105).length; rw [k105, hL 105 (by decide)]; rfl)) (by show (l110).length = (A 110).length; rw [k110, hL 110 (by decide)]; rfl)) (by show (l111).length = (A 111).length; rw [k111, hL 111 (by decide)]; rfl)) (by show (l108).length = (A 108).length; rw [k108, hL 108 (by decide)]; rfl)) (by show (l107).length = (A 107).length; rw [k107, hL 107 (by decide)]; rfl)), hR0.2.1, hR0.2.2.1, hR0.2.2.2.1, hR0.2.2.2.2.1, hR0.2.2.2.2.2.1, hR0.2.2.2.2.2.2.1, hR0.2.2.2.2.2.2.2.1, ⟨(show -1 ≤ F 3 by omega), (show F 3 ≤ 30 by omega)⟩, (REFU_c hR0.2.2.2.2.2.2.2.2.2)⟩⟩

theorem op_lay_1 {c : Int} {A : Nat → List Int} {F : Nat → Int} (hR : REL c A F) (hc : c < 512) (hd : (1 : Int) < F 0) : R 88 (0, L0 88 [vR 1, vI 1], [], LAY (shA A) (shF F), 0, 0) (fun r G => (∃ x, r = some (vI x)) ∧ (∃ (A1 : Nat → List Int) (F1 : Nat → Int), G = LAY A1 F1 ∧ A1 0 = A 0) ∧ R 164 (0, L0 164 [vR 88, vI 1], [], G, 0, 0) (fun r2 G2 => r2 = r ∧ ∃ (A' : Nat → List Int) (F' : Nat → Int), G2 = LAY (shA A') (shF F') ∧ A' 0 = A 0 ∧ REL (c + 1) A' F')) := by
  have hR0 := hR
  obtain ⟨hL, hPE, hTH, hTP, hDE, hLE, hNO, hAC, hRO, hRE⟩ := hR
  have h87 : (A 87).length = 9 := hL 87 (by decide)
  have h99 : (A 99).length = 6 := hL 99 (by decide)
  have r2 := REFU_at hRE (k := 2) (by decide) (by decide) hc
  have r3 := REFU_at hRE (k := 3) (by decide) (by decide) hc
  have r4 := REFU_at hRE (k := 4) (by decide) (by decide) hc
  have r5 := REFU_at hRE (k := 5) (by decide) (by decide) hc
  have r6 := REFU_at hRE (k := 6) (by decide) (by decide) hc
  have r7 := REFU_at hRE (k := 7) (by decide) (by decide) hc
  have r8 := REFU_at hRE (k := 8) (by decide) (by decide) hc
  obtain ⟨t1, t2, t3, t4, t5, t6⟩ := hTH
  obtain ⟨p1, p2, p3, p4, p5, p6⟩ := hPE
  have hD := D_at1 hR0 hd
  have he1 := hD.1.1
  have he2 := hD.1.2.1
  have hme : rd (A 99) 1 = F 9 := by
    have := hD.2.2.2.2.1
    omega
  obtain ⟨so, te, tp, mg, pm, lo, hS⟩ := SPL_ex A F (N_al A F) (N_Q A 30) (F 9).toNat (N_Y A F 1)
  refine R_s (P := True) (f' := (2, [some (vR 1), some (vI 1), none, none], [vI 1, vR 1], LAY (shA A) (shF F), 0, 0)) hc88 2 rfl trivial ?_
  refine R_cv hc88 rfl rfl ?_ (fun r G h => h)
  refine R_s (P := True) (f' := (2, [some (vR 1), some (vI 1)], [vI 1, vR 1], LAY (shA A) (shF F), 0, 0)) hc99 2 rfl trivial ?_
  refine R_cv hc99 rfl rfl ?_ (fun r G h => h)
  refine R_s (P := True) (f' := (1, [some (vR 1), some (vI 1)], [vI 1], LAY (shA A) (shF F), 0, 0)) hc98 1 rfl trivial ?_
  refine R_if (t := 16) hc98 rfl rfl (fun (z : 1 < 0) => absurd z (by decide)) (fun (_ : ¬ (1 < 0)) => ?_)
  refine R_s (P := True) (f' := (9, [some (vR 1), some (vI 1)], [vI (F 0), vI 1], LAY (shA A) (shF F), 0, 0)) hc98 3 rfl trivial ?_
  refine R_ic (t := 16) hc98 rfl rfl (fun (z : F 0 ≤ 1) => absurd z (by omega)) (fun (_ : ¬ (F 0 ≤ 1)) => ?_)
  refine R_s (P := True) (f' := (17, [some (vR 1), some (vI 1)], [vI 1], LAY (shA A) (shF F), 0, 0)) hc98 2 rfl trivial ?_
  refine R_retz hc98 rfl rfl (Or.inr rfl) ?_
  refine R_s (f' := (5, [some (vR 1), some (vI 1)], [vI 1], LAY (shA A) (shF F), 0, 0)) hc99 0 rfl trivial ?_
  refine R_if (t := 17) hc99 rfl rfl (fun (z : 1 = 0) => absurd z (by decide)) (fun (_ : ¬ (1 = 0)) => ?_)
  refine R_s (P := (0 ≤ (1 : Int) ∧ (1 : Int) < (([some 20, some 29, some 38, some 47, some 56, some 65] : List (Option Nat)).length : Int)) ∧ True) (f' := (18, [some (vR 1), some (vI 1)], [vR 29], LAY (shA A) (shF F), 0, 0)) hc99 5 rfl ⟨(by decide), trivial⟩ ?_
  refine R_reta hc99 rfl rfl ?_
  refine R_s (f' := (5, [some (vR 1), some (vI 1), none, none], [vR 29], LAY (shA A) (shF F), 0, 0)) hc88 0 rfl trivial ?_
  refine R_s (P := True) (f' := (20, [some (vR 1), some (vI 1), some (vR 29), none], [vI 1, vR 29, vR 1], LAY (shA A) (shF F), 0, 0)) hc88 6 rfl trivial ?_
  refine R_cv hc88 rfl rfl (l_now1 hR0 hd hS) (fun r G9 hp9 => ?_)
  obtain ⟨rfl, l8, l9, l10, l11, l75, l76, l77, l78, rfl, k8, k9, k10, k11, k75, k76, k77, k78, v75, v76, v77⟩ := hp9
  refine R_s (f' := (23, [some (vR 1), some (vI 1), some (vR 29), none], [], LAY (u (u (u (u (u (u (u (u (shA A) 8 l8) 9 l9) 10 l10) 11 l11) 75 l75) 76 l76) 77 l77) 78 l78) (u (u (shF F) 14 mg) 15 lo), 0, 0)) hc88 0 rfl trivial ?_
  refine R_s (P := True) (f' := (25, [some (vR 1), some (vI 1), some (vR 29), some (vI 0)], [], LAY (u (u (u (u (u (u (u (u (shA A) 8 l8) 9 l9) 10 l10) 11 l11) 75 l75) 76 l76) 77 l77) 78 l78) (u (u (shF F) 14 mg) 15 lo), 0, 0)) hc88 2 rfl trivial ?_
  refine lay_C (A := (u (u (u (u (u (u (u (u (shA A) 8 l8) 9 l9) 10 l10) 11 l11) 75 l75) 76 l76) 77 l77) 78 l78)) (F := (u (u (shF F) 14 mg) 15 lo)) (n := (F 3).toNat) (R_n hR0) (R_n30 hR0) k77 (hL 86 (by decide)) (fun x l86 k86 v86 v86b => ?_)
  refine R_s (P := True) (f' := (72, [some (vR 1), some (vI 1), some (vR 29), some (vI x)], [vI (F 3)], LAY (u (u (u (u (u (u (u (u (u (shA A) 8 l8) 9 l9) 10 l10) 11 l11) 75 l75) 76 l76) 77 l77) 78 l78) 86 l86) (u (u (u (shF F) 14 mg) 15 lo) 1 (F 3)), 0, 0)) hc88 7 rfl trivial ?_
  refine R_reti hc88 rfl rfl ⟨⟨_, rfl⟩, ⟨_, _, rfl, rfl⟩, ?_⟩
  refine R_s (P := True) (f' := (2, [some (vR 88), some (vI 1), none], [vI 1, vR 88], LAY (u (u (u (u (u (u (u (u (u (shA A) 8 l8) 9 l9) 10 l10) 11 l11) 75 l75) 76 l76) 77 l77) 78 l78) 86 l86) (u (u (u (shF F) 14 mg) 15 lo) 1 (F 3)), 0, 0)) hc164 2 rfl trivial ?_
  refine R_cv hc164 rfl rfl ?_ (fun r G h => h)
  refine R_s (P := inI ((F 0) - 1) ∧ True) (f' := (8, [some (vR 88), some (vI 1)], [vI ((F 0) - 1), vI 0, vI 1], LAY (u (u (u (u (u (u (u (u (u (shA A) 8 l8) 9 l9) 10 l10) 11 l11) 75 l75) 76 l76) 77 l77) 78 l78) 86 l86) (u (u (u (shF F) 14 mg) 15 lo) 1 (F 3)), 0, 0)) hc108 6 rfl ⟨⟨by omega, by omega⟩, trivial⟩ ?_
  refine R_cs hc108 rfl rfl ?_ (fun r G h => h)
  refine R_s (P := True) (f' := (2, [some (vI 1), some (vI 0), some (vI ((F 0) - 1))], [vI 0, vI 1], LAY (u (u (u (u (u (u (u (u (u (shA A) 8 l8) 9 l9) 10 l10) 11 l11) 75 l75) 76 l76) 77 l77) 78 l78) 86 l86) (u (u (u (shF F) 14 mg) 15 lo) 1 (F 3)), 0, 0)) hc104 2 rfl trivial ?_
  refine R_ic (t := 14) hc104 rfl rfl (fun (z : 1 < 0) => absurd z (by decide)) (fun (_ : ¬ (1 < 0)) => ?_)
  refine R_s (P := True) (f' := (7, [some (vI 1), some (vI 0), some (vI ((F 0) - 1))], [vI ((F 0) - 1), vI 1], LAY (u (u (u (u (u (u (u (u (u (shA A) 8 l8) 9 l9) 10 l10) 11 l11) 75 l75) 76 l76) 77 l77) 78 l78) 86 l86) (u (u (u (shF F) 14 mg) 15 lo) 1 (F 3)), 0, 0)) hc104 2 rfl trivial ?_
  refine R_ic (t := 14) hc104 rfl rfl (fun (z : (F 0) - 1 < 1) => absurd z (by omega)) (fun (_ : ¬ ((F 0) - 1 < 1)) => ?_)
  refine R_s (P := True) (f' := (15, [some (vI 1), some (vI 0), some (vI ((F 0) - 1))], [vI 1], LAY (u (u (u (u (u (u (u (u (u (shA A) 8 l8) 9 l9) 10 l10) 11 l11) 75 l75) 76 l76) 77 l77) 78 l78) 86 l86) (u (u (u (shF F) 14 mg) 15 lo) 1 (F 3)), 0, 0)) hc104 2 rfl trivial ?_
  refine R_retz hc104 rfl rfl (Or.inr rfl) ?_
  refine R_s (f' := (11, [some (vR 88), some (vI 1)], [vI 1], LAY (u (u (u (u (u (u (u (u (u (shA A) 8 l8) 9 l9) 10 l10) 11 l11) 75 l75) 76 l76) 77 l77) 78 l78) 86 l86) (u (u (u (shF F) 14 mg) 15 lo) 1 (F 3)), 0, 0)) hc108 0 rfl trivial ?_
  refine R_retz hc108 rfl rfl (Or.inr rfl) ?_
  refine R_s (f' := (5, [some (vR 88), some (vI 1), none], [vI 1], LAY (u (u (u (u (u (u (u (u (u (shA A) 8 l8) 9 l9) 10 l10) 11 l11) 75 l75) 76 l76) 77 l77) 78 l78) 86 l86) (u (u (u (shF F) 14 mg) 15 lo) 1 (F 3)), 0, 0)) hc164 0 rfl trivial ?_
  refine R_if (t := 15) hc164 rfl rfl (fun (_ : ¬ 1 = 0) => ?_) (fun (z : ¬ (¬ 1 = 0)) => absurd (by decide) z)
  refine R_s (P := True) (f' := (17, [some (vR 88), some (vI 1), none], [vI 1, vR 88], LAY (u (u (u (u (u (u (u (u (u (shA A) 8 l8) 9 l9) 10 l10) 11 l11) 75 l75) 76 l76) 77 l77) 78 l78) 86 l86) (u (u (u (shF F) 14 mg) 15 lo) 1 (F 3)), 0, 0)) hc164 2 rfl trivial ?_
  refine R_cv hc164 rfl rfl (l_worksR hR0 (A1 := (u (u (u (u (u (u (u (u (u (shA A) 8 l8) 9 l9) 10 l10) 11 l11) 75 l75) 76 l76) 77 l77) 78 l78) 86 l86)) (F1 := (u (u (u (shF F) 14 mg) 15 lo) 1 (F 3))) rfl rfl rfl rfl rfl rfl rfl rfl rfl rfl rfl rfl rfl (hL 104 (by decide)) (hL 105 (by decide)) (hL 107 (by decide)) (hL 108 (by decide)) (hL 109 (by decide)) (hL 110 (by decide)) (hL 111 (by decide)) hD.1 hD.2 rfl hS) (fun r G9 hp9 => ?_)
  obtain ⟨rfl, l104, l105, l107, l108, l109, l110, l111, ac, rfl, k104, k105, k107, k108, k109, k110, k111, hac, w107, w108⟩ := hp9
  refine R_s (f' := (20, [some (vR 88), some (vI 1), none], [], LAY (u (u (u (u (u (u (u (u (u (u (u (u (u (u (u (u (shA A) 8 l8) 9 l9) 10 l10) 11 l11) 75 l75) 76 l76) 77 l77) 78 l78) 86 l86) 109 l109) 104 l104) 105 l105) 110 l110) 111 l111) 108 l108) 107 l107) (u (u (u (u (u (u (u (shF F) 14 mg) 15 lo) 1 (F 3)) 28 (N_Y A F 1)) 29 ac) 30 mg) 31 lo), 0, 0)) hc164 0 rfl trivial ?_
  refine R_s (P := True) (f' := (30, [some (vR 88), some (vI 1), some (vI 0)], [], LAY (u (u (u (u (u (u (u (u (u (u (u (u (u (u (u (u (shA A) 8 l8) 9 l9) 10 l10) 11 l11) 75 l75) 76 l76) 77 l77) 78 l78) 86 l86) 109 l109) 104 l104) 105 l105) 110 l110) 111 l111) 108 l108) 107 l107) (u (u (u (u (u (u (u (u (shF F) 14 mg) 15 lo) 1 (F 3)) 28 (N_Y A F 1)) 29 ac) 30 mg) 31 lo) 32 (F 3)), 0, 0)) hc164 6 rfl trivial ?_
  refine lay_M (A := (u (u (u (u (u (u (u (u (u (u (u (u (u (u (u (u (shA A) 8 l8) 9 l9) 10 l10) 11 l11) 75 l75) 76 l76) 77 l77) 78 l78) 86 l86) 109 l109) 104 l104) 105 l105) 110 l110) 111 l111) 108 l108) 107 l107)) (F := (u (u (u (u (u (u (u (u (shF F) 14 mg) 15 lo) 1 (F 3)) 28 (N_Y A F 1)) 29 ac) 30 mg) 31 lo) 32 (F 3))) (n := (F 3).toNat) (R_n hR0) (R_n30 hR0) k108 (hL 86 (by decide)) (fun y l112 k112 v112 v112b => ?_)
  have e12 : l112 = l86 := list_ext (by rw [k112, k86]) (fun j hj => by
    by_cases q : j < (F 3).toNat
    · rw [v112 j q, v86 j q]
      exact (w108 j q).trans (v77 j q).symm
    · rw [v112b j (by omega), v86b j (by omega)]
      rfl)
  rw [e12]
  refine R_s (P := True) (f' := (60, [some (vR 88), some (vI 1), some (vI y)], [vI (F 3)], LAY (u (u (u (u (u (u (u (u (u (u (u (u (u (u (u (u (u (shA A) 8 l8) 9 l9) 10 l10) 11 l11) 75 l75) 76 l76) 77 l77) 78 l78) 86 l86) 109 l109) 104 l104) 105 l105) 110 l110) 111 l111) 108 l108) 107 l107) 112 l86) (u (u (u (u (u (u (u (u (shF F) 14 mg) 15 lo) 1 (F 3)) 28 (N_Y A F 1)) 29 ac) 30 mg) 31 lo) 32 (F 3)), 0, 0)) hc164 2 rfl trivial ?_
  refine R_reti hc164 rfl rfl ?_
  first
    | (exfalso; omega; done)
    | exact ⟨rfl, (u (u (u (u (u (u (u (u (u (u (u (u (u (u (u (u A 8 l8) 9 l9) 10 l10) 11 l11) 75 l75) 76 l76) 77 l77) 78 l78) 86 l86) 109 l109) 104 l104) 105 l105) 110 l110) 111 l111) 108 l108) 107 l107), (u (u (u (u (u (u (u F 14 mg) 15 lo) 1 (F 3)) 28 (N_Y A F 1)) 29 ac) 30 mg) 31 lo), rfl, rfl, ⟨(LENS_u (LENS_u (LENS_u (LENS_u (LENS_u (LENS_u (LENS_u (LENS_u (LENS_u (LENS_u (LENS_u (LENS_u (LENS_u (LENS_u (LENS_u (LENS_u hL (by show (l8).length = (A 8).length; rw [k8, hL 8 (by decide)]; rfl)) (by show (l9).length = (A 9).length; rw [k9, hL 9 (by decide)]; rfl)) (by show (l10).length = (A 10).length; rw [k10, hL 10 (by decide)]; rfl)) (by show (l11).length = (A 11).length; rw [k11, hL 11 (by decide)]; rfl)) (by show (l75).length = (A 75).length; rw [k75, hL 75 (by decide)]; rfl)) (by show (l76).length = (A 76).length; rw [k76, hL 76 (by decide)]; rfl)) (by show (l77).length = (A 77).length; rw [k77, hL 77 (by decide)]; rfl)) (by show (l78).length = (A 78).length; rw [k78, hL 78 (by decide)]; rfl)) (by show (l86).length = (A 86).length; rw [k86, hL 86 (by decide)]; rfl)) (by show (l109).length = (A 109).length; rw [k109, hL 109 (by decide)]; rfl)) (by show (l104).length = (A 104).length; rw [k104, hL 104 (by decide)]; rfl)) (by show (l105).length = (A 105).length; rw [k105, hL 105 (by decide)]; rfl)) (by show (l110).length = (A 110).length; rw [k110, hL 110 (by decide)]; rfl)) (by show (l111).length = (A 111).length; rw [k111, hL 111 (by decide)]; rfl)) (by show (l108).length = (A 108).length; rw [k108, hL 108 (by decide)]; rfl)) (by show (l107).length = (A 107).length; rw [k107, hL 107 (by decide)]; rfl)), hR0.2.1, hR0.2.2.1, hR0.2.2.2.1, hR0.2.2.2.2.1, hR0.2.2.2.2.2.1, hR0.2.2.2.2.2.2.1, hR0.2.2.2.2.2.2.2.1, ⟨(show -1 ≤ F 3 by omega), (show F 3 ≤ 30 by omega)⟩, (REFU_c hR0.2.2.2.2.2.2.2.2.2)⟩⟩

theorem op_lay_2 {c : Int} {A : Nat → List Int} {F : Nat → Int} (hR : REL c A F) (hc : c < 512) (hd : (2 : Int) < F 0) : R 88 (0, L0 88 [vR 1, vI 2], [], LAY (shA A) (shF F), 0, 0) (fun r G => (∃ x, r = some (vI x)) ∧ (∃ (A1 : Nat → List Int) (F1 : Nat → Int), G = LAY A1 F1 ∧ A1 0 = A 0) ∧ R 164 (0, L0 164 [vR 88, vI 2], [], G, 0, 0) (fun r2 G2 => r2 = r ∧ ∃ (A' : Nat → List Int) (F' : Nat → Int), G2 = LAY (shA A') (shF F') ∧ A' 0 = A 0 ∧ REL (c + 1) A' F')) := by
  have hR0 := hR
  obtain ⟨hL, hPE, hTH, hTP, hDE, hLE, hNO, hAC, hRO, hRE⟩ := hR
  have h87 : (A 87).length = 9 := hL 87 (by decide)
  have h99 : (A 99).length = 6 := hL 99 (by decide)
  have r2 := REFU_at hRE (k := 2) (by decide) (by decide) hc
  have r3 := REFU_at hRE (k := 3) (by decide) (by decide) hc
  have r4 := REFU_at hRE (k := 4) (by decide) (by decide) hc
  have r5 := REFU_at hRE (k := 5) (by decide) (by decide) hc
  have r6 := REFU_at hRE (k := 6) (by decide) (by decide) hc
  have r7 := REFU_at hRE (k := 7) (by decide) (by decide) hc
  have r8 := REFU_at hRE (k := 8) (by decide) (by decide) hc
  obtain ⟨t1, t2, t3, t4, t5, t6⟩ := hTH
  obtain ⟨p1, p2, p3, p4, p5, p6⟩ := hPE
  have hD := D_at2 hR0 hd
  have he1 := hD.1.1
  have he2 := hD.1.2.1
  have hme : rd (A 99) 2 = F 10 := by
    have := hD.2.2.2.2.1
    omega
  obtain ⟨so, te, tp, mg, pm, lo, hS⟩ := SPL_ex A F (N_al A F) (N_Q A 39) (F 10).toNat (N_Y A F 2)
  refine R_s (P := True) (f' := (2, [some (vR 1), some (vI 2), none, none], [vI 2, vR 1], LAY (shA A) (shF F), 0, 0)) hc88 2 rfl trivial ?_
  refine R_cv hc88 rfl rfl ?_ (fun r G h => h)
  refine R_s (P := True) (f' := (2, [some (vR 1), some (vI 2)], [vI 2, vR 1], LAY (shA A) (shF F), 0, 0)) hc99 2 rfl trivial ?_
  refine R_cv hc99 rfl rfl ?_ (fun r G h => h)
  refine R_s (P := True) (f' := (1, [some (vR 1), some (vI 2)], [vI 2], LAY (shA A) (shF F), 0, 0)) hc98 1 rfl trivial ?_
  refine R_if (t := 16) hc98 rfl rfl (fun (z : 2 < 0) => absurd z (by decide)) (fun (_ : ¬ (2 < 0)) => ?_)
  refine R_s (P := True) (f' := (9, [some (vR 1), some (vI 2)], [vI (F 0), vI 2], LAY (shA A) (shF F), 0, 0)) hc98 3 rfl trivial ?_
  refine R_ic (t := 16) hc98 rfl rfl (fun (z : F 0 ≤ 2) => absurd z (by omega)) (fun (_ : ¬ (F 0 ≤ 2)) => ?_)
  refine R_s (P := True) (f' := (17, [some (vR 1), some (vI 2)], [vI 1], LAY (shA A) (shF F), 0, 0)) hc98 2 rfl trivial ?_
  refine R_retz hc98 rfl rfl (Or.inr rfl) ?_
  refine R_s (f' := (5, [some (vR 1), some (vI 2)], [vI 1], LAY (shA A) (shF F), 0, 0)) hc99 0 rfl trivial ?_
  refine R_if (t := 17) hc99 rfl rfl (fun (z : 1 = 0) => absurd z (by decide)) (fun (_ : ¬ (1 = 0)) => ?_)
  refine R_s (P := (0 ≤ (2 : Int) ∧ (2 : Int) < (([some 20, some 29, some 38, some 47, some 56, some 65] : List (Option Nat)).length : Int)) ∧ True) (f' := (18, [some (vR 1), some (vI 2)], [vR 38], LAY (shA A) (shF F), 0, 0)) hc99 5 rfl ⟨(by decide), trivial⟩ ?_
  refine R_reta hc99 rfl rfl ?_
  refine R_s (f' := (5, [some (vR 1), some (vI 2), none, none], [vR 38], LAY (shA A) (shF F), 0, 0)) hc88 0 rfl trivial ?_
  refine R_s (P := True) (f' := (20, [some (vR 1), some (vI 2), some (vR 38), none], [vI 2, vR 38, vR 1], LAY (shA A) (shF F), 0, 0)) hc88 6 rfl trivial ?_
  refine R_cv hc88 rfl rfl (l_now2 hR0 hd hS) (fun r G9 hp9 => ?_)
  obtain ⟨rfl, l8, l9, l10, l11, l75, l76, l77, l78, rfl, k8, k9, k10, k11, k75, k76, k77, k78, v75, v76, v77⟩ := hp9
  refine R_s (f' := (23, [some (vR 1), some (vI 2), some (vR 38), none], [], LAY (u (u (u (u (u (u (u (u (shA A) 8 l8) 9 l9) 10 l10) 11 l11) 75 l75) 76 l76) 77 l77) 78 l78) (u (u (shF F) 14 mg) 15 lo), 0, 0)) hc88 0 rfl trivial ?_
  refine R_s (P := True) (f' := (25, [some (vR 1), some (vI 2), some (vR 38), some (vI 0)], [], LAY (u (u (u (u (u (u (u (u (shA A) 8 l8) 9 l9) 10 l10) 11 l11) 75 l75) 76 l76) 77 l77) 78 l78) (u (u (shF F) 14 mg) 15 lo), 0, 0)) hc88 2 rfl trivial ?_
  refine lay_C (A := (u (u (u (u (u (u (u (u (shA A) 8 l8) 9 l9) 10 l10) 11 l11) 75 l75) 76 l76) 77 l77) 78 l78)) (F := (u (u (shF F) 14 mg) 15 lo)) (n := (F 3).toNat) (R_n hR0) (R_n30 hR0) k77 (hL 86 (by decide)) (fun x l86 k86 v86 v86b => ?_)
  refine R_s (P := True) (f' := (72, [some (vR 1), some (vI 2), some (vR 38), some (vI x)], [vI (F 3)], LAY (u (u (u (u (u (u (u (u (u (shA A) 8 l8) 9 l9) 10 l10) 11 l11) 75 l75) 76 l76) 77 l77) 78 l78) 86 l86) (u (u (u (shF F) 14 mg) 15 lo) 1 (F 3)), 0, 0)) hc88 7 rfl trivial ?_
  refine R_reti hc88 rfl rfl ⟨⟨_, rfl⟩, ⟨_, _, rfl, rfl⟩, ?_⟩
  refine R_s (P := True) (f' := (2, [some (vR 88), some (vI 2), none], [vI 2, vR 88], LAY (u (u (u (u (u (u (u (u (u (shA A) 8 l8) 9 l9) 10 l10) 11 l11) 75 l75) 76 l76) 77 l77) 78 l78) 86 l86) (u (u (u (shF F) 14 mg) 15 lo) 1 (F 3)), 0, 0)) hc164 2 rfl trivial ?_
  refine R_cv hc164 rfl rfl ?_ (fun r G h => h)
  refine R_s (P := inI ((F 0) - 1) ∧ True) (f' := (8, [some (vR 88), some (vI 2)], [vI ((F 0) - 1), vI 0, vI 2], LAY (u (u (u (u (u (u (u (u (u (shA A) 8 l8) 9 l9) 10 l10) 11 l11) 75 l75) 76 l76) 77 l77) 78 l78) 86 l86) (u (u (u (shF F) 14 mg) 15 lo) 1 (F 3)), 0, 0)) hc108 6 rfl ⟨⟨by omega, by omega⟩, trivial⟩ ?_
  refine R_cs hc108 rfl rfl ?_ (fun r G h => h)
  refine R_s (P := True) (f' := (2, [some (vI 2), some (vI 0), some (vI ((F 0) - 1))], [vI 0, vI 2], LAY (u (u (u (u (u (u (u (u (u (shA A) 8 l8) 9 l9) 10 l10) 11 l11) 75 l75) 76 l76) 77 l77) 78 l78) 86 l86) (u (u (u (shF F) 14 mg) 15 lo) 1 (F 3)), 0, 0)) hc104 2 rfl trivial ?_
  refine R_ic (t := 14) hc104 rfl rfl (fun (z : 2 < 0) => absurd z (by decide)) (fun (_ : ¬ (2 < 0)) => ?_)
  refine R_s (P := True) (f' := (7, [some (vI 2), some (vI 0), some (vI ((F 0) - 1))], [vI ((F 0) - 1), vI 2], LAY (u (u (u (u (u (u (u (u (u (shA A) 8 l8) 9 l9) 10 l10) 11 l11) 75 l75) 76 l76) 77 l77) 78 l78) 86 l86) (u (u (u (shF F) 14 mg) 15 lo) 1 (F 3)), 0, 0)) hc104 2 rfl trivial ?_
  refine R_ic (t := 14) hc104 rfl rfl (fun (z : (F 0) - 1 < 2) => absurd z (by omega)) (fun (_ : ¬ ((F 0) - 1 < 2)) => ?_)
  refine R_s (P := True) (f' := (15, [some (vI 2), some (vI 0), some (vI ((F 0) - 1))], [vI 1], LAY (u (u (u (u (u (u (u (u (u (shA A) 8 l8) 9 l9) 10 l10) 11 l11) 75 l75) 76 l76) 77 l77) 78 l78) 86 l86) (u (u (u (shF F) 14 mg) 15 lo) 1 (F 3)), 0, 0)) hc104 2 rfl trivial ?_
  refine R_retz hc104 rfl rfl (Or.inr rfl) ?_
  refine R_s (f' := (11, [some (vR 88), some (vI 2)], [vI 1], LAY (u (u (u (u (u (u (u (u (u (shA A) 8 l8) 9 l9) 10 l10) 11 l11) 75 l75) 76 l76) 77 l77) 78 l78) 86 l86) (u (u (u (shF F) 14 mg) 15 lo) 1 (F 3)), 0, 0)) hc108 0 rfl trivial ?_
  refine R_retz hc108 rfl rfl (Or.inr rfl) ?_
  refine R_s (f' := (5, [some (vR 88), some (vI 2), none], [vI 1], LAY (u (u (u (u (u (u (u (u (u (shA A) 8 l8) 9 l9) 10 l10) 11 l11) 75 l75) 76 l76) 77 l77) 78 l78) 86 l86) (u (u (u (shF F) 14 mg) 15 lo) 1 (F 3)), 0, 0)) hc164 0 rfl trivial ?_
  refine R_if (t := 15) hc164 rfl rfl (fun (_ : ¬ 1 = 0) => ?_) (fun (z : ¬ (¬ 1 = 0)) => absurd (by decide) z)
  refine R_s (P := True) (f' := (17, [some (vR 88), some (vI 2), none], [vI 2, vR 88], LAY (u (u (u (u (u (u (u (u (u (shA A) 8 l8) 9 l9) 10 l10) 11 l11) 75 l75) 76 l76) 77 l77) 78 l78) 86 l86) (u (u (u (shF F) 14 mg) 15 lo) 1 (F 3)), 0, 0)) hc164 2 rfl trivial ?_
  refine R_cv hc164 rfl rfl (l_worksR hR0 (A1 := (u (u (u (u (u (u (u (u (u (shA A) 8 l8) 9 l9) 10 l10) 11 l11) 75 l75) 76 l76) 77 l77) 78 l78) 86 l86)) (F1 := (u (u (u (shF F) 14 mg) 15 lo) 1 (F 3))) rfl rfl rfl rfl rfl rfl rfl rfl rfl rfl rfl rfl rfl (hL 104 (by decide)) (hL 105 (by decide)) (hL 107 (by decide)) (hL 108 (by decide)) (hL 109 (by decide)) (hL 110 (by decide)) (hL 111 (by decide)) hD.1 hD.2 rfl hS) (fun r G9 hp9 => ?_)
  obtain ⟨rfl, l104, l105, l107, l108, l109, l110, l111, ac, rfl, k104, k105, k107, k108, k109, k110, k111, hac, w107, w108⟩ := hp9
  refine R_s (f' := (20, [some (vR 88), some (vI 2), none], [], LAY (u (u (u (u (u (u (u (u (u (u (u (u (u (u (u (u (shA A) 8 l8) 9 l9) 10 l10) 11 l11) 75 l75) 76 l76) 77 l77) 78 l78) 86 l86) 109 l109) 104 l104) 105 l105) 110 l110) 111 l111) 108 l108) 107 l107) (u (u (u (u (u (u (u (shF F) 14 mg) 15 lo) 1 (F 3)) 28 (N_Y A F 2)) 29 ac) 30 mg) 31 lo), 0, 0)) hc164 0 rfl trivial ?_
  refine R_s (P := True) (f' := (30, [some (vR 88), some (vI 2), some (vI 0)], [], LAY (u (u (u (u (u (u (u (u (u (u (u (u (u (u (u (u (shA A) 8 l8) 9 l9) 10 l10) 11 l11) 75 l75) 76 l76) 77 l77) 78 l78) 86 l86) 109 l109) 104 l104) 105 l105) 110 l110) 111 l111) 108 l108) 107 l107) (u (u (u (u (u (u (u (u (shF F) 14 mg) 15 lo) 1 (F 3)) 28 (N_Y A F 2)) 29 ac) 30 mg) 31 lo) 32 (F 3)), 0, 0)) hc164 6 rfl trivial ?_
  refine lay_M (A := (u (u (u (u (u (u (u (u (u (u (u (u (u (u (u (u (shA A) 8 l8) 9 l9) 10 l10) 11 l11) 75 l75) 76 l76) 77 l77) 78 l78) 86 l86) 109 l109) 104 l104) 105 l105) 110 l110) 111 l111) 108 l108) 107 l107)) (F := (u (u (u (u (u (u (u (u (shF F) 14 mg) 15 lo) 1 (F 3)) 28 (N_Y A F 2)) 29 ac) 30 mg) 31 lo) 32 (F 3))) (n := (F 3).toNat) (R_n hR0) (R_n30 hR0) k108 (hL 86 (by decide)) (fun y l112 k112 v112 v112b => ?_)
  have e12 : l112 = l86 := list_ext (by rw [k112, k86]) (fun j hj => by
    by_cases q : j < (F 3).toNat
    · rw [v112 j q, v86 j q]
      exact (w108 j q).trans (v77 j q).symm
    · rw [v112b j (by omega), v86b j (by omega)]
      rfl)
  rw [e12]
  refine R_s (P := True) (f' := (60, [some (vR 88), some (vI 2), some (vI y)], [vI (F 3)], LAY (u (u (u (u (u (u (u (u (u (u (u (u (u (u (u (u (u (shA A) 8 l8) 9 l9) 10 l10) 11 l11) 75 l75) 76 l76) 77 l77) 78 l78) 86 l86) 109 l109) 104 l104) 105 l105) 110 l110) 111 l111) 108 l108) 107 l107) 112 l86) (u (u (u (u (u (u (u (u (shF F) 14 mg) 15 lo) 1 (F 3)) 28 (N_Y A F 2)) 29 ac) 30 mg) 31 lo) 32 (F 3)), 0, 0)) hc164 2 rfl trivial ?_
  refine R_reti hc164 rfl rfl ?_
  first
    | (exfalso; omega; done)
    | exact ⟨rfl, (u (u (u (u (u (u (u (u (u (u (u (u (u (u (u (u A 8 l8) 9 l9) 10 l10) 11 l11) 75 l75) 76 l76) 77 l77) 78 l78) 86 l86) 109 l109) 104 l104) 105 l105) 110 l110) 111 l111) 108 l108) 107 l107), (u (u (u (u (u (u (u F 14 mg) 15 lo) 1 (F 3)) 28 (N_Y A F 2)) 29 ac) 30 mg) 31 lo), rfl, rfl, ⟨(LENS_u (LENS_u (LENS_u (LENS_u (LENS_u (LENS_u (LENS_u (LENS_u (LENS_u (LENS_u (LENS_u (LENS_u (LENS_u (LENS_u (LENS_u (LENS_u hL (by show (l8).length = (A 8).length; rw [k8, hL 8 (by decide)]; rfl)) (by show (l9).length = (A 9).length; rw [k9, hL 9 (by decide)]; rfl)) (by show (l10).length = (A 10).length; rw [k10, hL 10 (by decide)]; rfl)) (by show (l11).length = (A 11).length; rw [k11, hL 11 (by decide)]; rfl)) (by show (l75).length = (A 75).length; rw [k75, hL 75 (by decide)]; rfl)) (by show (l76).length = (A 76).length; rw [k76, hL 76 (by decide)]; rfl)) (by show (l77).length = (A 77).length; rw [k77, hL 77 (by decide)]; rfl)) (by show (l78).length = (A 78).length; rw [k78, hL 78 (by decide)]; rfl)) (by show (l86).length = (A 86).length; rw [k86, hL 86 (by decide)]; rfl)) (by show (l109).length = (A 109).length; rw [k109, hL 109 (by decide)]; rfl)) (by show (l104).length = (A 104).length; rw [k104, hL 104 (by decide)]; rfl)) (by show (l105).length = (A 105).length; rw [k105, hL 105 (by decide)]; rfl)) (by show (l110).length = (A 110).length; rw [k110, hL 110 (by decide)]; rfl)) (by show (l111).length = (A 111).length; rw [k111, hL 111 (by decide)]; rfl)) (by show (l108).length = (A 108).length; rw [k108, hL 108 (by decide)]; rfl)) (by show (l107).length = (A 107).length; rw [k107, hL 107 (by decide)]; rfl)), hR0.2.1, hR0.2.2.1, hR0.2.2.2.1, hR0.2.2.2.2.1, hR0.2.2.2.2.2.1, hR0.2.2.2.2.2.2.1, hR0.2.2.2.2.2.2.2.1, ⟨(show -1 ≤ F 3 by omega), (show F 3 ≤ 30 by omega)⟩, (REFU_c hR0.2.2.2.2.2.2.2.2.2)⟩⟩

theorem op_lay_3 {c : Int} {A : Nat → List Int} {F : Nat → Int} (hR : REL c A F) (hc : c < 512) (hd : (3 : Int) < F 0) : R 88 (0, L0 88 [vR 1, vI 3], [], LAY (shA A) (shF F), 0, 0) (fun r G => (∃ x, r = some (vI x)) ∧ (∃ (A1 : Nat → List Int) (F1 : Nat → Int), G = LAY A1 F1 ∧ A1 0 = A 0) ∧ R 164 (0, L0 164 [vR 88, vI 3], [], G, 0, 0) (fun r2 G2 => r2 = r ∧ ∃ (A' : Nat → List Int) (F' : Nat → Int), G2 = LAY (shA A') (shF F') ∧ A' 0 = A 0 ∧ REL (c + 1) A' F')) := by
  have hR0 := hR
  obtain ⟨hL, hPE, hTH, hTP, hDE, hLE, hNO, hAC, hRO, hRE⟩ := hR
  have h87 : (A 87).length = 9 := hL 87 (by decide)
  have h99 : (A 99).length = 6 := hL 99 (by decide)
  have r2 := REFU_at hRE (k := 2) (by decide) (by decide) hc
  have r3 := REFU_at hRE (k := 3) (by decide) (by decide) hc
  have r4 := REFU_at hRE (k := 4) (by decide) (by decide) hc
  have r5 := REFU_at hRE (k := 5) (by decide) (by decide) hc
  have r6 := REFU_at hRE (k := 6) (by decide) (by decide) hc
  have r7 := REFU_at hRE (k := 7) (by decide) (by decide) hc
  have r8 := REFU_at hRE (k := 8) (by decide) (by decide) hc
  obtain ⟨t1, t2, t3, t4, t5, t6⟩ := hTH
  obtain ⟨p1, p2, p3, p4, p5, p6⟩ := hPE
  have hD := D_at3 hR0 hd
  have he1 := hD.1.1
  have he2 := hD.1.2.1
  have hme : rd (A 99) 3 = F 11 := by
    have := hD.2.2.2.2.1
    omega
  obtain ⟨so, te, tp, mg, pm, lo, hS⟩ := SPL_ex A F (N_al A F) (N_Q A 48) (F 11).toNat (N_Y A F 3)
  refine R_s (P := True) (f' := (2, [some (vR 1), some (vI 3), none, none], [vI 3, vR 1], LAY (shA A) (shF F), 0, 0)) hc88 2 rfl trivial ?_
  refine R_cv hc88 rfl rfl ?_ (fun r G h => h)
  refine R_s (P := True) (f' := (2, [some (vR 1), some (vI 3)], [vI 3, vR 1], LAY (shA A) (shF F), 0, 0)) hc99 2 rfl trivial ?_
  refine R_cv hc99 rfl rfl ?_ (fun r G h => h)
  refine R_s (P := True) (f' := (1, [some (vR 1), some (vI 3)], [vI 3], LAY (shA A) (shF F), 0, 0)) hc98 1 rfl trivial ?_
  refine R_if (t := 16) hc98 rfl rfl (fun (z : 3 < 0) => absurd z (by decide)) (fun (_ : ¬ (3 < 0)) => ?_)
  refine R_s (P := True) (f' := (9, [some (vR 1), some (vI 3)], [vI (F 0), vI 3], LAY (shA A) (shF F), 0, 0)) hc98 3 rfl trivial ?_
  refine R_ic (t := 16) hc98 rfl rfl (fun (z : F 0 ≤ 3) => absurd z (by omega)) (fun (_ : ¬ (F 0 ≤ 3)) => ?_)
  refine R_s (P := True) (f' := (17, [some (vR 1), some (vI 3)], [vI 1], LAY (shA A) (shF F), 0, 0)) hc98 2 rfl trivial ?_
  refine R_retz hc98 rfl rfl (Or.inr rfl) ?_
  refine R_s (f' := (5, [some (vR 1), some (vI 3)], [vI 1], LAY (shA A) (shF F), 0, 0)) hc99 0 rfl trivial ?_
  refine R_if (t := 17) hc99 rfl rfl (fun (z : 1 = 0) => absurd z (by decide)) (fun (_ : ¬ (1 = 0)) => ?_)
  refine R_s (P := (0 ≤ (3 : Int) ∧ (3 : Int) < (([some 20, some 29, some 38, some 47, some 56, some 65] : List (Option Nat)).length : Int)) ∧ True) (f' := (18, [some (vR 1), some (vI 3)], [vR 47], LAY (shA A) (shF F), 0, 0)) hc99 5 rfl ⟨(by decide), trivial⟩ ?_
  refine R_reta hc99 rfl rfl ?_
  refine R_s (f' := (5, [some (vR 1), some (vI 3), none, none], [vR 47], LAY (shA A) (shF F), 0, 0)) hc88 0 rfl trivial ?_
  refine R_s (P := True) (f' := (20, [some (vR 1), some (vI 3), some (vR 47), none], [vI 3, vR 47, vR 1], LAY (shA A) (shF F), 0, 0)) hc88 6 rfl trivial ?_
  refine R_cv hc88 rfl rfl (l_now3 hR0 hd hS) (fun r G9 hp9 => ?_)
  obtain ⟨rfl, l8, l9, l10, l11, l75, l76, l77, l78, rfl, k8, k9, k10, k11, k75, k76, k77, k78, v75, v76, v77⟩ := hp9
  refine R_s (f' := (23, [some (vR 1), some (vI 3), some (vR 47), none], [], LAY (u (u (u (u (u (u (u (u (shA A) 8 l8) 9 l9) 10 l10) 11 l11) 75 l75) 76 l76) 77 l77) 78 l78) (u (u (shF F) 14 mg) 15 lo), 0, 0)) hc88 0 rfl trivial ?_
  refine R_s (P := True) (f' := (25, [some (vR 1), some (vI 3), some (vR 47), some (vI 0)], [], LAY (u (u (u (u (u (u (u (u (shA A) 8 l8) 9 l9) 10 l10) 11 l11) 75 l75) 76 l76) 77 l77) 78 l78) (u (u (shF F) 14 mg) 15 lo), 0, 0)) hc88 2 rfl trivial ?_
  refine lay_C (A := (u (u (u (u (u (u (u (u (shA A) 8 l8) 9 l9) 10 l10) 11 l11) 75 l75) 76 l76) 77 l77) 78 l78)) (F := (u (u (shF F) 14 mg) 15 lo)) (n := (F 3).toNat) (R_n hR0) (R_n30 hR0) k77 (hL 86 (by decide)) (fun x l86 k86 v86 v86b => ?_)
  refine R_s (P := True) (f' := (72, [some (vR 1), some (vI 3), some (vR 47), some (vI x)], [vI (F 3)], LAY (u (u (u (u (u (u (u (u (u (shA A) 8 l8) 9 l9) 10 l10) 11 l11) 75 l75) 76 l76) 77 l77) 78 l78) 86 l86) (u (u (u (shF F) 14 mg) 15 lo) 1 (F 3)), 0, 0)) hc88 7 rfl trivial ?_
  refine R_reti hc88 rfl rfl ⟨⟨_, rfl⟩, ⟨_, _, rfl, rfl⟩, ?_⟩
  refine R_s (P := True) (f' := (2, [some (vR 88), some (vI 3), none], [vI 3, vR 88], LAY (u (u (u (u (u (u (u (u (u (shA A) 8 l8) 9 l9) 10 l10) 11 l11) 75 l75) 76 l76) 77 l77) 78 l78) 86 l86) (u (u (u (shF F) 14 mg) 15 lo) 1 (F 3)), 0, 0)) hc164 2 rfl trivial ?_
  refine R_cv hc164 rfl rfl ?_ (fun r G h => h)
  refine R_s (P := inI ((F 0) - 1) ∧ True) (f' := (8, [some (vR 88), some (vI 3)], [vI ((F 0) - 1), vI 0, vI 3], LAY (u (u (u (u (u (u (u (u (u (shA A) 8 l8) 9 l9) 10 l10) 11 l11) 75 l75) 76 l76) 77 l77) 78 l78) 86 l86) (u (u (u (shF F) 14 mg) 15 lo) 1 (F 3)), 0, 0)) hc108 6 rfl ⟨⟨by omega, by omega⟩, trivial⟩ ?_
  refine R_cs hc108 rfl rfl ?_ (fun r G h => h)
  refine R_s (P := True) (f' := (2, [some (vI 3), some (vI 0), some (vI ((F 0) - 1))], [vI 0, vI 3], LAY (u (u (u (u (u (u (u (u (u (shA A) 8 l8) 9 l9) 10 l10) 11 l11) 75 l75) 76 l76) 77 l77) 78 l78) 86 l86) (u (u (u (shF F) 14 mg) 15 lo) 1 (F 3)), 0, 0)) hc104 2 rfl trivial ?_
  refine R_ic (t := 14) hc104 rfl rfl (fun (z : 3 < 0) => absurd z (by decide)) (fun (_ : ¬ (3 < 0)) => ?_)
  refine R_s (P := True) (f' := (7, [some (vI 3), some (vI 0), some (vI ((F 0) - 1))], [vI ((F 0) - 1), vI 3], LAY (u (u (u (u (u (u (u (u (u (shA A) 8 l8) 9 l9) 10 l10) 11 l11) 75 l75) 76 l76) 77 l77) 78 l78) 86 l86) (u (u (u (shF F) 14 mg) 15 lo) 1 (F 3)), 0, 0)) hc104 2 rfl trivial ?_
  refine R_ic (t := 14) hc104 rfl rfl (fun (z : (F 0) - 1 < 3) => absurd z (by omega)) (fun (_ : ¬ ((F 0) - 1 < 3)) => ?_)
  refine R_s (P := True) (f' := (15, [some (vI 3), some (vI 0), some (vI ((F 0) - 1))], [vI 1], LAY (u (u (u (u (u (u (u (u (u (shA A) 8 l8) 9 l9) 10 l10) 11 l11) 75 l75) 76 l76) 77 l77) 78 l78) 86 l86) (u (u (u (shF F) 14 mg) 15 lo) 1 (F 3)), 0, 0)) hc104 2 rfl trivial ?_
  refine R_retz hc104 rfl rfl (Or.inr rfl) ?_
  refine R_s (f' := (11, [some (vR 88), some (vI 3)], [vI 1], LAY (u (u (u (u (u (u (u (u (u (shA A) 8 l8) 9 l9) 10 l10) 11 l11) 75 l75) 76 l76) 77 l77) 78 l78) 86 l86) (u (u (u (shF F) 14 mg) 15 lo) 1 (F 3)), 0, 0)) hc108 0 rfl trivial ?_
  refine R_retz hc108 rfl rfl (Or.inr rfl) ?_
  refine R_s (f' := (5, [some (vR 88), some (vI 3), none], [vI 1], LAY (u (u (u (u (u (u (u (u (u (shA A) 8 l8) 9 l9) 10 l10) 11 l11) 75 l75) 76 l76) 77 l77) 78 l78) 86 l86) (u (u (u (shF F) 14 mg) 15 lo) 1 (F 3)), 0, 0)) hc164 0 rfl trivial ?_
  refine R_if (t := 15) hc164 rfl rfl (fun (_ : ¬ 1 = 0) => ?_) (fun (z : ¬ (¬ 1 = 0)) => absurd (by decide) z)
  refine R_s (P := True) (f' := (17, [some (vR 88), some (vI 3), none], [vI 3, vR 88], LAY (u (u (u (u (u (u (u (u (u (shA A) 8 l8) 9 l9) 10 l10) 11 l11) 75 l75) 76 l76) 77 l77) 78 l78) 86 l86) (u (u (u (shF F) 14 mg) 15 lo) 1 (F 3)), 0, 0)) hc164 2 rfl trivial ?_
  refine R_cv hc164 rfl rfl (l_worksR hR0 (A1 := (u (u (u (u (u (u (u (u (u (shA A) 8 l8) 9 l9) 10 l10) 11 l11) 75 l75) 76 l76) 77 l77) 78 l78) 86 l86)) (F1 := (u (u (u (shF F) 14 mg) 15 lo) 1 (F 3))) rfl rfl rfl rfl rfl rfl rfl rfl rfl rfl rfl rfl rfl (hL 104 (by decide)) (hL 105 (by decide)) (hL 107 (by decide)) (hL 108 (by decide)) (hL 109 (by decide)) (hL 110 (by decide)) (hL 111 (by decide)) hD.1 hD.2 rfl hS) (fun r G9 hp9 => ?_)
  obtain ⟨rfl, l104, l105, l107, l108, l109, l110, l111, ac, rfl, k104, k105, k107, k108, k109, k110, k111, hac, w107, w108⟩ := hp9
  refine R_s (f' := (20, [some (vR 88), some (vI 3), none], [], LAY (u (u (u (u (u (u (u (u (u (u (u (u (u (u (u (u (shA A) 8 l8) 9 l9) 10 l10) 11 l11) 75 l75) 76 l76) 77 l77) 78 l78) 86 l86) 109 l109) 104 l104) 105 l105) 110 l110) 111 l111) 108 l108) 107 l107) (u (u (u (u (u (u (u (shF F) 14 mg) 15 lo) 1 (F 3)) 28 (N_Y A F 3)) 29 ac) 30 mg) 31 lo), 0, 0)) hc164 0 rfl trivial ?_
  refine R_s (P := True) (f' := (30, [some (vR 88), some (vI 3), some (vI 0)], [], LAY (u (u (u (u (u (u (u (u (u (u (u (u (u (u (u (u (shA A) 8 l8) 9 l9) 10 l10) 11 l11) 75 l75) 76 l76) 77 l77) 78 l78) 86 l86) 109 l109) 104 l104) 105 l105) 110 l110) 111 l111) 108 l108) 107 l107) (u (u (u (u (u (u (u (u (shF F) 14 mg) 15 lo) 1 (F 3)) 28 (N_Y A F 3)) 29 ac) 30 mg) 31 lo) 32 (F 3)), 0, 0)) hc164 6 rfl trivial ?_
  refine lay_M (A := (u (u (u (u (u (u (u (u (u (u (u (u (u (u (u (u (shA A) 8 l8) 9 l9) 10 l10) 11 l11) 75 l75) 76 l76) 77 l77) 78 l78) 86 l86) 109 l109) 104 l104) 105 l105) 110 l110) 111 l111) 108 l108) 107 l107)) (F := (u (u (u (u (u (u (u (u (shF F) 14 mg) 15 lo) 1 (F 3)) 28 (N_Y A F 3)) 29 ac) 30 mg) 31 lo) 32 (F 3))) (n := (F 3).toNat) (R_n hR0) (R_n30 hR0) k108 (hL 86 (by decide)) (fun y l112 k112 v112 v112b => ?_)
  have e12 : l112 = l86 := list_ext (by rw [k112, k86]) (fun j hj => by
    by_cases q : j < (F 3).toNat
    · rw [v112 j q, v86 j q]
      exact (w108 j q).trans (v77 j q).symm
    · rw [v112b j (by omega), v86b j (by omega)]
      rfl)
  rw [e12]
  refine R_s (P := True) (f' := (60, [some (vR 88), some (vI 3), some (vI y)], [vI (F 3)], LAY (u (u (u (u (u (u (u (u (u (u (u (u (u (u (u (u (u (shA A) 8 l8) 9 l9) 10 l10) 11 l11) 75 l75) 76 l76) 77 l77) 78 l78) 86 l86) 109 l109) 104 l104) 105 l105) 110 l110) 111 l111) 108 l108) 107 l107) 112 l86) (u (u (u (u (u (u (u (u (shF F) 14 mg) 15 lo) 1 (F 3)) 28 (N_Y A F 3)) 29 ac) 30 mg) 31 lo) 32 (F 3)), 0, 0)) hc164 2 rfl trivial ?_
  refine R_reti hc164 rfl rfl ?_
  first
    | (exfalso; omega; done)
    | exact ⟨rfl, (u (u (u (u (u (u (u (u (u (u (u (u (u (u (u (u A 8 l8) 9 l9) 10 l10) 11 l11) 75 l75) 76 l76) 77 l77) 78 l78) 86 l86) 109 l109) 104 l104) 105 l105) 110 l110) 111 l111) 108 l108) 107 l107), (u (u (u (u (u (u (u F 14 mg) 15 lo) 1 (F 3)) 28 (N_Y A F 3)) 29 ac) 30 mg) 31 lo), rfl, rfl, ⟨(LENS_u (LENS_u (LENS_u (LENS_u (LENS_u (LENS_u (LENS_u (LENS_u (LENS_u (LENS_u (LENS_u (LENS_u (LENS_u (LENS_u (LENS_u (LENS_u hL (by show (l8).length = (A 8).length; rw [k8, hL 8 (by decide)]; rfl)) (by show (l9).length = (A 9).length; rw [k9, hL 9 (by decide)]; rfl)) (by show (l10).length = (A 10).length; rw [k10, hL 10 (by decide)]; rfl)) (by show (l11).length = (A 11).length; rw [k11, hL 11 (by decide)]; rfl)) (by show (l75).length = (A 75).length; rw [k75, hL 75 (by decide)]; rfl)) (by show (l76).length = (A 76).length; rw [k76, hL 76 (by decide)]; rfl)) (by show (l77).length = (A 77).length; rw [k77, hL 77 (by decide)]; rfl)) (by show (l78).length = (A 78).length; rw [k78, hL 78 (by decide)]; rfl)) (by show (l86).length = (A 86).length; rw [k86, hL 86 (by decide)]; rfl)) (by show (l109).length = (A 109).length; rw [k109, hL 109 (by decide)]; rfl)) (by show (l104).length = (A 104).length; rw [k104, hL 104 (by decide)]; rfl)) (by show (l105).length = (A 105).length; rw [k105, hL 105 (by decide)]; rfl)) (by show (l110).length = (A 110).length; rw [k110, hL 110 (by decide)]; rfl)) (by show (l111).length = (A 111).length; rw [k111, hL 111 (by decide)]; rfl)) (by show (l108).length = (A 108).length; rw [k108, hL 108 (by decide)]; rfl)) (by show (l107).length = (A 107).length; rw [k107, hL 107 (by decide)]; rfl)), hR0.2.1, hR0.2.2.1, hR0.2.2.2.1, hR0.2.2.2.2.1, hR0.2.2.2.2.2.1, hR0.2.2.2.2.2.2.1, hR0.2.2.2.2.2.2.2.1, ⟨(show -1 ≤ F 3 by omega), (show F 3 ≤ 30 by omega)⟩, (REFU_c hR0.2.2.2.2.2.2.2.2.2)⟩⟩

theorem op_lay_4 {c : Int} {A : Nat → List Int} {F : Nat → Int} (hR : REL c A F) (hc : c < 512) (hd : (4 : Int) < F 0) : R 88 (0, L0 88 [vR 1, vI 4], [], LAY (shA A) (shF F), 0, 0) (fun r G => (∃ x, r = some (vI x)) ∧ (∃ (A1 : Nat → List Int) (F1 : Nat → Int), G = LAY A1 F1 ∧ A1 0 = A 0) ∧ R 164 (0, L0 164 [vR 88, vI 4], [], G, 0, 0) (fun r2 G2 => r2 = r ∧ ∃ (A' : Nat → List Int) (F' : Nat → Int), G2 = LAY (shA A') (shF F') ∧ A' 0 = A 0 ∧ REL (c + 1) A' F')) := by
  have hR0 := hR
  obtain ⟨hL, hPE, hTH, hTP, hDE, hLE, hNO, hAC, hRO, hRE⟩ := hR
  have h87 : (A 87).length = 9 := hL 87 (by decide)
  have h99 : (A 99).length = 6 := hL 99 (by decide)
  have r2 := REFU_at hRE (k := 2) (by decide) (by decide) hc
  have r3 := REFU_at hRE (k := 3) (by decide) (by decide) hc
  have r4 := REFU_at hRE (k := 4) (by decide) (by decide) hc
  have r5 := REFU_at hRE (k := 5) (by decide) (by decide) hc
  have r6 := REFU_at hRE (k := 6) (by decide) (by decide) hc
  have r7 := REFU_at hRE (k := 7) (by decide) (by decide) hc
  have r8 := REFU_at hRE (k := 8) (by decide) (by decide) hc
  obtain ⟨t1, t2, t3, t4, t5, t6⟩ := hTH
  obtain ⟨p1, p2, p3, p4, p5, p6⟩ := hPE
  have hD := D_at4 hR0 hd
  have he1 := hD.1.1
  have he2 := hD.1.2.1
  have hme : rd (A 99) 4 = F 12 := by
    have := hD.2.2.2.2.1
    omega
  obtain ⟨so, te, tp, mg, pm, lo, hS⟩ := SPL_ex A F (N_al A F) (N_Q A 57) (F 12).toNat (N_Y A F 4)
  refine R_s (P := True) (f' := (2, [some (vR 1), some (vI 4), none, none], [vI 4, vR 1], LAY (shA A) (shF F), 0, 0)) hc88 2 rfl trivial ?_
  refine R_cv hc88 rfl rfl ?_ (fun r G h => h)
  refine R_s (P := True) (f' := (2, [some (vR 1), some (vI 4)], [vI 4, vR 1], LAY (shA A) (shF F), 0, 0)) hc99 2 rfl trivial ?_
  refine R_cv hc99 rfl rfl ?_ (fun r G h => h)
  refine R_s (P := True) (f' := (1, [some (vR 1), some (vI 4)], [vI 4], LAY (shA A) (shF F), 0, 0)) hc98 1 rfl trivial ?_
  refine R_if (t := 16) hc98 rfl rfl (fun (z : 4 < 0) => absurd z (by decide)) (fun (_ : ¬ (4 < 0)) => ?_)
  refine R_s (P := True) (f' := (9, [some (vR 1), some (vI 4)], [vI (F 0), vI 4], LAY (shA A) (shF F), 0, 0)) hc98 3 rfl trivial ?_
  refine R_ic (t := 16) hc98 rfl rfl (fun (z : F 0 ≤ 4) => absurd z (by omega)) (fun (_ : ¬ (F 0 ≤ 4)) => ?_)
  refine R_s (P := True) (f' := (17, [some (vR 1), some (vI 4)], [vI 1], LAY (shA A) (shF F), 0, 0)) hc98 2 rfl trivial ?_
  refine R_retz hc98 rfl rfl (Or.inr rfl) ?_
  refine R_s (f' := (5, [some (vR 1), some (vI 4)], [vI 1], LAY (shA A) (shF F), 0, 0)) hc99 0 rfl trivial ?_
  refine R_if (t := 17) hc99 rfl rfl (fun (z : 1 = 0) => absurd z (by decide)) (fun (_ : ¬ (1 = 0)) => ?_)
  refine R_s (P := (0 ≤ (4 : Int) ∧ (4 : Int) < (([some 20, some 29, some 38, some 47, some 56, some 65] : List (Option Nat)).length : Int)) ∧ True) (f' := (18, [some (vR 1), some (vI 4)], [vR 56], LAY (shA A) (shF F), 0, 0)) hc99 5 rfl ⟨(by decide), trivial⟩ ?_
  refine R_reta hc99 rfl rfl ?_
  refine R_s (f' := (5, [some (vR 1), some (vI 4), none, none], [vR 56], LAY (shA A) (shF F), 0, 0)) hc88 0 rfl trivial ?_
  refine R_s (P := True) (f' := (20, [some (vR 1), some (vI 4), some (vR 56), none], [vI 4, vR 56, vR 1], LAY (shA A) (shF F), 0, 0)) hc88 6 rfl trivial ?_
  refine R_cv hc88 rfl rfl (l_now4 hR0 hd hS) (fun r G9 hp9 => ?_)
  obtain ⟨rfl, l8, l9, l10, l11, l75, l76, l77, l78, rfl, k8, k9, k10, k11, k75, k76, k77, k78, v75, v76, v77⟩ := hp9
  refine R_s (f' := (23, [some (vR 1), some (vI 4), some (vR 56), none], [], LAY (u (u (u (u (u (u (u (u (shA A) 8 l8) 9 l9) 10 l10) 11 l11) 75 l75) 76 l76) 77 l77) 78 l78) (u (u (shF F) 14 mg) 15 lo), 0, 0)) hc88 0 rfl trivial ?_
  refine R_s (P := True) (f' := (25, [some (vR 1), some (vI 4), some (vR 56), some (vI 0)], [], LAY (u (u (u (u (u (u (u (u (shA A) 8 l8) 9 l9) 10 l10) 11 l11) 75 l75) 76 l76) 77 l77) 78 l78) (u (u (shF F) 14 mg) 15 lo), 0, 0)) hc88 2 rfl trivial ?_
  refine lay_C (A := (u (u (u (u (u (u (u (u (shA A) 8 l8) 9 l9) 10 l10) 11 l11) 75 l75) 76 l76) 77 l77) 78 l78)) (F := (u (u (shF F) 14 mg) 15 lo)) (n := (F 3).toNat) (R_n hR0) (R_n30 hR0) k77 (hL 86 (by decide)) (fun x l86 k86 v86 v86b => ?_)
  refine R_s (P := True) (f' := (72, [some (vR 1), some (vI 4), some (vR 56), some (vI x)], [vI (F 3)], LAY (u (u (u (u (u (u (u (u (u (shA A) 8 l8) 9 l9) 10 l10) 11 l11) 75 l75) 76 l76) 77 l77) 78 l78) 86 l86) (u (u (u (shF F) 14 mg) 15 lo) 1 (F 3)), 0, 0)) hc88 7 rfl trivial ?_
  refine R_reti hc88 rfl rfl ⟨⟨_, rfl⟩, ⟨_, _, rfl, rfl⟩, ?_⟩
  refine R_s (P := True) (f' := (2, [some (vR 88), some (vI 4), none], [vI 4, vR 88], LAY (u (u (u (u (u (u (u (u (u (shA A) 8 l8) 9 l9) 10 l10) 11 l11) 75 l75) 76 l76) 77 l77) 78 l78) 86 l86) (u (u (u (shF F) 14 mg) 15 lo) 1 (F 3)), 0, 0)) hc164 2 rfl trivial ?_
  refine R_cv hc164 rfl rfl ?_ (fun r G h => h)
  refine R_s (P := inI ((F 0) - 1) ∧ True) (f' := (8, [some (vR 88), some (vI 4)], [vI ((F 0) - 1), vI 0, vI 4], LAY (u (u (u (u (u (u (u (u (u (shA A) 8 l8) 9 l9) 10 l10) 11 l11) 75 l75) 76 l76) 77 l77) 78 l78) 86 l86) (u (u (u (shF F) 14 mg) 15 lo) 1 (F 3)), 0, 0)) hc108 6 rfl ⟨⟨by omega, by omega⟩, trivial⟩ ?_
  refine R_cs hc108 rfl rfl ?_ (fun r G h => h)
  refine R_s (P := True) (f' := (2, [some (vI 4), some (vI 0), some (vI ((F 0) - 1))], [vI 0, vI 4], LAY (u (u (u (u (u (u (u (u (u (shA A) 8 l8) 9 l9) 10 l10) 11 l11) 75 l75) 76 l76) 77 l77) 78 l78) 86 l86) (u (u (u (shF F) 14 mg) 15 lo) 1 (F 3)), 0, 0)) hc104 2 rfl trivial ?_
  refine R_ic (t := 14) hc104 rfl rfl (fun (z : 4 < 0) => absurd z (by decide)) (fun (_ : ¬ (4 < 0)) => ?_)
  refine R_s (P := True) (f' := (7, [some (vI 4), some (vI 0), some (vI ((F 0) - 1))], [vI ((F 0) - 1), vI 4], LAY (u (u (u (u (u (u (u (u (u (shA A) 8 l8) 9 l9) 10 l10) 11 l11) 75 l75) 76 l76) 77 l77) 78 l78) 86 l86) (u (u (u (shF F) 14 mg) 15 lo) 1 (F 3)), 0, 0)) hc104 2 rfl trivial ?_
  refine R_ic (t := 14) hc104 rfl rfl (fun (z : (F 0) - 1 < 4) => absurd z (by omega)) (fun (_ : ¬ ((F 0) - 1 < 4)) => ?_)
  refine R_s (P := True) (f' := (15, [some (vI 4), some (vI 0), some (vI ((F 0) - 1))], [vI 1], LAY (u (u (u (u (u (u (u (u (u (shA A) 8 l8) 9 l9) 10 l10) 11 l11) 75 l75) 76 l76) 77 l77) 78 l78) 86 l86) (u (u (u (shF F) 14 mg) 15 lo) 1 (F 3)), 0, 0)) hc104 2 rfl trivial ?_
  refine R_retz hc104 rfl rfl (Or.inr rfl) ?_
  refine R_s (f' := (11, [some (vR 88), some (vI 4)], [vI 1], LAY (u (u (u (u (u (u (u (u (u (shA A) 8 l8) 9 l9) 10 l10) 11 l11) 75 l75) 76 l76) 77 l77) 78 l78) 86 l86) (u (u (u (shF F) 14 mg) 15 lo) 1 (F 3)), 0, 0)) hc108 0 rfl trivial ?_
  refine R_retz hc108 rfl rfl (Or.inr rfl) ?_
  refine R_s (f' := (5, [some (vR 88), some (vI 4), none], [vI 1], LAY (u (u (u (u (u (u (u (u (u (shA A) 8 l8) 9 l9) 10 l10) 11 l11) 75 l75) 76 l76) 77 l77) 78 l78) 86 l86) (u (u (u (shF F) 14 mg) 15 lo) 1 (F 3)), 0, 0)) hc164 0 rfl trivial ?_
  refine R_if (t := 15) hc164 rfl rfl (fun (_ : ¬ 1 = 0) => ?_) (fun (z : ¬ (¬ 1 = 0)) => absurd (by decide) z)
  refine R_s (P := True) (f' := (17, [some (vR 88), some (vI 4), none], [vI 4, vR 88], LAY (u (u (u (u (u (u (u (u (u (shA A) 8 l8) 9 l9) 10 l10) 11 l11) 75 l75) 76 l76) 77 l77) 78 l78) 86 l86) (u (u (u (shF F) 14 mg) 15 lo) 1 (F 3)), 0, 0)) hc164 2 rfl trivial ?_
  refine R_cv hc164 rfl rfl (l_worksR hR0 (A1 := (u (u (u (u (u (u (u (u (u (shA A) 8 l8) 9 l9) 10 l10) 11 l11) 75 l75) 76 l76) 77 l77) 78 l78) 86 l86)) (F1 := (u (u (u (shF F) 14 mg) 15 lo) 1 (F 3))) rfl rfl rfl rfl rfl rfl rfl rfl rfl rfl rfl rfl rfl (hL 104 (by decide)) (hL 105 (by decide)) (hL 107 (by decide)) (hL 108 (by decide)) (hL 109 (by decide)) (hL 110 (by decide)) (hL 111 (by decide)) hD.1 hD.2 rfl hS) (fun r G9 hp9 => ?_)
  obtain ⟨rfl, l104, l105, l107, l108, l109, l110, l111, ac, rfl, k104, k105, k107, k108, k109, k110, k111, hac, w107, w108⟩ := hp9
  refine R_s (f' := (20, [some (vR 88), some (vI 4), none], [], LAY (u (u (u (u (u (u (u (u (u (u (u (u (u (u (u (u (shA A) 8 l8) 9 l9) 10 l10) 11 l11) 75 l75) 76 l76) 77 l77) 78 l78) 86 l86) 109 l109) 104 l104) 105 l105) 110 l110) 111 l111) 108 l108) 107 l107) (u (u (u (u (u (u (u (shF F) 14 mg) 15 lo) 1 (F 3)) 28 (N_Y A F 4)) 29 ac) 30 mg) 31 lo), 0, 0)) hc164 0 rfl trivial ?_
  refine R_s (P := True) (f' := (30, [some (vR 88), some (vI 4), some (vI 0)], [], LAY (u (u (u (u (u (u (u (u (u (u (u (u (u (u (u (u (shA A) 8 l8) 9 l9) 10 l10) 11 l11) 75 l75) 76 l76) 77 l77) 78 l78) 86 l86) 109 l109) 104 l104) 105 l105) 110 l110) 111 l111) 108 l108) 107 l107) (u (u (u (u (u (u (u (u (shF F) 14 mg) 15 lo) 1 (F 3)) 28 (N_Y A F 4)) 29 ac) 30 mg) 31 lo) 32 (F 3)), 0, 0)) hc164 6 rfl trivial ?_
  refine lay_M (A := (u (u (u (u (u (u (u (u (u (u (u (u (u (u (u (u (shA A) 8 l8) 9 l9) 10 l10) 11 l11) 75 l75) 76 l76) 77 l77) 78 l78) 86 l86) 109 l109) 104 l104) 105 l105) 110 l110) 111 l111) 108 l108) 107 l107)) (F := (u (u (u (u (u (u (u (u (shF F) 14 mg) 15 lo) 1 (F 3)) 28 (N_Y A F 4)) 29 ac) 30 mg) 31 lo) 32 (F 3))) (n := (F 3).toNat) (R_n hR0) (R_n30 hR0) k108 (hL 86 (by decide)) (fun y l112 k112 v112 v112b => ?_)
  have e12 : l112 = l86 := list_ext (by rw [k112, k86]) (fun j hj => by
    by_cases q : j < (F 3).toNat
    · rw [v112 j q, v86 j q]
      exact (w108 j q).trans (v77 j q).symm
    · rw [v112b j (by omega), v86b j (by omega)]
      rfl)
  rw [e12]
  refine R_s (P := True) (f' := (60, [some (vR 88), some (vI 4), some (vI y)], [vI (F 3)], LAY (u (u (u (u (u (u (u (u (u (u (u (u (u (u (u (u (u (shA A) 8 l8) 9 l9) 10 l10) 11 l11) 75 l75) 76 l76) 77 l77) 78 l78) 86 l86) 109 l109) 104 l104) 105 l105) 110 l110) 111 l111) 108 l108) 107 l107) 112 l86) (u (u (u (u (u (u (u (u (shF F) 14 mg) 15 lo) 1 (F 3)) 28 (N_Y A F 4)) 29 ac) 30 mg) 31 lo) 32 (F 3)), 0, 0)) hc164 2 rfl trivial ?_
  refine R_reti hc164 rfl rfl ?_
  first
    | (exfalso; omega; done)
    | exact ⟨rfl, (u (u (u (u (u (u (u (u (u (u (u (u (u (u (u (u A 8 l8) 9 l9) 10 l10) 11 l11) 75 l75) 76 l76) 77 l77) 78 l78) 86 l86) 109 l109) 104 l104) 105 l105) 110 l110) 111 l111) 108 l108) 107 l107), (u (u (u (u (u (u (u F 14 mg) 15 lo) 1 (F 3)) 28 (N_Y A F 4)) 29 ac) 30 mg) 31 lo), rfl, rfl, ⟨(LENS_u (LENS_u (LENS_u (LENS_u (LENS_u (LENS_u (LENS_u (LENS_u (LENS_u (LENS_u (LENS_u (LENS_u (LENS_u (LENS_u (LENS_u (LENS_u hL (by show (l8).length = (A 8).length; rw [k8, hL 8 (by decide)]; rfl)) (by show (l9).length = (A 9).length; rw [k9, hL 9 (by decide)]; rfl)) (by show (l10).length = (A 10).length; rw [k10, hL 10 (by decide)]; rfl)) (by show (l11).length = (A 11).length; rw [k11, hL 11 (by decide)]; rfl)) (by show (l75).length = (A 75).length; rw [k75, hL 75 (by decide)]; rfl)) (by show (l76).length = (A 76).length; rw [k76, hL 76 (by decide)]; rfl)) (by show (l77).length = (A 77).length; rw [k77, hL 77 (by decide)]; rfl)) (by show (l78).length = (A 78).length; rw [k78, hL 78 (by decide)]; rfl)) (by show (l86).length = (A 86).length; rw [k86, hL 86 (by decide)]; rfl)) (by show (l109).length = (A 109).length; rw [k109, hL 109 (by decide)]; rfl)) (by show (l104).length = (A 104).length; rw [k104, hL 104 (by decide)]; rfl)) (by show (l105).length = (A 105).length; rw [k105, hL 105 (by decide)]; rfl)) (by show (l110).length = (A 110).length; rw [k110, hL 110 (by decide)]; rfl)) (by show (l111).length = (A 111).length; rw [k111, hL 111 (by decide)]; rfl)) (by show (l108).length = (A 108).length; rw [k108, hL 108 (by decide)]; rfl)) (by show (l107).length = (A 107).length; rw [k107, hL 107 (by decide)]; rfl)), hR0.2.1, hR0.2.2.1, hR0.2.2.2.1, hR0.2.2.2.2.1, hR0.2.2.2.2.2.1, hR0.2.2.2.2.2.2.1, hR0.2.2.2.2.2.2.2.1, ⟨(show -1 ≤ F 3 by omega), (show F 3 ≤ 30 by omega)⟩, (REFU_c hR0.2.2.2.2.2.2.2.2.2)⟩⟩

theorem op_lay_5 {c : Int} {A : Nat → List Int} {F : Nat → Int} (hR : REL c A F) (hc : c < 512) (hd : (5 : Int) < F 0) : R 88 (0, L0 88 [vR 1, vI 5], [], LAY (shA A) (shF F), 0, 0) (fun r G => (∃ x, r = some (vI x)) ∧ (∃ (A1 : Nat → List Int) (F1 : Nat → Int), G = LAY A1 F1 ∧ A1 0 = A 0) ∧ R 164 (0, L0 164 [vR 88, vI 5], [], G, 0, 0) (fun r2 G2 => r2 = r ∧ ∃ (A' : Nat → List Int) (F' : Nat → Int), G2 = LAY (shA A') (shF F') ∧ A' 0 = A 0 ∧ REL (c + 1) A' F')) := by
  have hR0 := hR
  obtain ⟨hL, hPE, hTH, hTP, hDE, hLE, hNO, hAC, hRO, hRE⟩ := hR
  have h87 : (A 87).length = 9 := hL 87 (by decide)
  have h99 : (A 99).length = 6 := hL 99 (by decide)
  have r2 := REFU_at hRE (k := 2) (by decide) (by decide) hc
  have r3 := REFU_at hRE (k := 3) (by decide) (by decide) hc
  have r4 := REFU_at hRE (k := 4) (by decide) (by decide) hc
  have r5 := REFU_at hRE (k := 5) (by decide) (by decide) hc
  have r6 := REFU_at hRE (k := 6) (by decide) (by decide) hc
  have r7 := REFU_at hRE (k := 7) (by decide) (by decide) hc
  have r8 := REFU_at hRE (k := 8) (by decide) (by decide) hc
  obtain ⟨t1, t2, t3, t4, t5, t6⟩ := hTH
  obtain ⟨p1, p2, p3, p4, p5, p6⟩ := hPE
  have hD := D_at5 hR0 hd
  have he1 := hD.1.1
  have he2 := hD.1.2.1
  have hme : rd (A 99) 5 = F 13 := by
    have := hD.2.2.2.2.1
    omega
  obtain ⟨so, te, tp, mg, pm, lo, hS⟩ := SPL_ex A F (N_al A F) (N_Q A 66) (F 13).toNat (N_Y A F 5)
  refine R_s (P := True) (f' := (2, [some (vR 1), some (vI 5), none, none], [vI 5, vR 1], LAY (shA A) (shF F), 0, 0)) hc88 2 rfl trivial ?_
  refine R_cv hc88 rfl rfl ?_ (fun r G h => h)
  refine R_s (P := True) (f' := (2, [some (vR 1), some (vI 5)], [vI 5, vR 1], LAY (shA A) (shF F), 0, 0)) hc99 2 rfl trivial ?_
  refine R_cv hc99 rfl rfl ?_ (fun r G h => h)
  refine R_s (P := True) (f' := (1, [some (vR 1), some (vI 5)], [vI 5], LAY (shA A) (shF F), 0, 0)) hc98 1 rfl trivial ?_
  refine R_if (t := 16) hc98 rfl rfl (fun (z : 5 < 0) => absurd z (by decide)) (fun (_ : ¬ (5 < 0)) => ?_)
  refine R_s (P := True) (f' := (9, [some (vR 1), some (vI 5)], [vI (F 0), vI 5], LAY (shA A) (shF F), 0, 0)) hc98 3 rfl trivial ?_
  refine R_ic (t := 16) hc98 rfl rfl (fun (z : F 0 ≤ 5) => absurd z (by omega)) (fun (_ : ¬ (F 0 ≤ 5)) => ?_)
  refine R_s (P := True) (f' := (17, [some (vR 1), some (vI 5)], [vI 1], LAY (shA A) (shF F), 0, 0)) hc98 2 rfl trivial ?_
  refine R_retz hc98 rfl rfl (Or.inr rfl) ?_
  refine R_s (f' := (5, [some (vR 1), some (vI 5)], [vI 1], LAY (shA A) (shF F), 0, 0)) hc99 0 rfl trivial ?_
  refine R_if (t := 17) hc99 rfl rfl (fun (z : 1 = 0) => absurd z (by decide)) (fun (_ : ¬ (1 = 0)) => ?_)
  refine R_s (P := (0 ≤ (5 : Int) ∧ (5 : Int) < (([some 20, some 29, some 38, some 47, some 56, some 65] : List (Option Nat)).length : Int)) ∧ True) (f' := (18, [some (vR 1), some (vI 5)], [vR 65], LAY (shA A) (shF F), 0, 0)) hc99 5 rfl ⟨(by decide), trivial⟩ ?_
  refine R_reta hc99 rfl rfl ?_
  refine R_s (f' := (5, [some (vR 1), some (vI 5), none, none], [vR 65], LAY (shA A) (shF F), 0, 0)) hc88 0 rfl trivial ?_
  refine R_s (P := True) (f' := (20, [some (vR 1), some (vI 5), some (vR 65), none], [vI 5, vR 65, vR 1], LAY (shA A) (shF F), 0, 0)) hc88 6 rfl trivial ?_
  refine R_cv hc88 rfl rfl (l_now5 hR0 hd hS) (fun r G9 hp9 => ?_)
  obtain ⟨rfl, l8, l9, l10, l11, l75, l76, l77, l78, rfl, k8, k9, k10, k11, k75, k76, k77, k78, v75, v76, v77⟩ := hp9
  refine R_s (f' := (23, [some (vR 1), some (vI 5), some (vR 65), none], [], LAY (u (u (u (u (u (u (u (u (shA A) 8 l8) 9 l9) 10 l10) 11 l11) 75 l75) 76 l76) 77 l77) 78 l78) (u (u (shF F) 14 mg) 15 lo), 0, 0)) hc88 0 rfl trivial ?_
  refine R_s (P := True) (f' := (25, [some (vR 1), some (vI 5), some (vR 65), some (vI 0)], [], LAY (u (u (u (u (u (u (u (u (shA A) 8 l8) 9 l9) 10 l10) 11 l11) 75 l75) 76 l76) 77 l77) 78 l78) (u (u (shF F) 14 mg) 15 lo), 0, 0)) hc88 2 rfl trivial ?_
  refine lay_C (A := (u (u (u (u (u (u (u (u (shA A) 8 l8) 9 l9) 10 l10) 11 l11) 75 l75) 76 l76) 77 l77) 78 l78)) (F := (u (u (shF F) 14 mg) 15 lo)) (n := (F 3).toNat) (R_n hR0) (R_n30 hR0) k77 (hL 86 (by decide)) (fun x l86 k86 v86 v86b => ?_)
  refine R_s (P := True) (f' := (72, [some (vR 1), some (vI 5), some (vR 65), some (vI x)], [vI (F 3)], LAY (u (u (u (u (u (u (u (u (u (shA A) 8 l8) 9 l9) 10 l10) 11 l11) 75 l75) 76 l76) 77 l77) 78 l78) 86 l86) (u (u (u (shF F) 14 mg) 15 lo) 1 (F 3)), 0, 0)) hc88 7 rfl trivial ?_
  refine R_reti hc88 rfl rfl ⟨⟨_, rfl⟩, ⟨_, _, rfl, rfl⟩, ?_⟩
  refine R_s (P := True) (f' := (2, [some (vR 88), some (vI 5), none], [vI 5, vR 88], LAY (u (u (u (u (u (u (u (u (u (shA A) 8 l8) 9 l9) 10 l10) 11 l11) 75 l75) 76 l76) 77 l77) 78 l78) 86 l86) (u (u (u (shF F) 14 mg) 15 lo) 1 (F 3)), 0, 0)) hc164 2 rfl trivial ?_
  refine R_cv hc164 rfl rfl ?_ (fun r G h => h)
  refine R_s (P := inI ((F 0) - 1) ∧ True) (f' := (8, [some (vR 88), some (vI 5)], [vI ((F 0) - 1), vI 0, vI 5], LAY (u (u (u (u (u (u (u (u (u (shA A) 8 l8) 9 l9) 10 l10) 11 l11) 75 l75) 76 l76) 77 l77) 78 l78) 86 l86) (u (u (u (shF F) 14 mg) 15 lo) 1 (F 3)), 0, 0)) hc108 6 rfl ⟨⟨by omega, by omega⟩, trivial⟩ ?_
  refine R_cs hc108 rfl rfl ?_ (fun r G h => h)
  refine R_s (P := True) (f' := (2, [some (vI 5), some (vI 0), some (vI ((F 0) - 1))], [vI 0, vI 5], LAY (u (u (u (u (u (u (u (u (u (shA A) 8 l8) 9 l9) 10 l10) 11 l11) 75 l75) 76 l76) 77 l77) 78 l78) 86 l86) (u (u (u (shF F) 14 mg) 15 lo) 1 (F 3)), 0, 0)) hc104 2 rfl trivial ?_
  refine R_ic (t := 14) hc104 rfl rfl (fun (z : 5 < 0) => absurd z (by decide)) (fun (_ : ¬ (5 < 0)) => ?_)
  refine R_s (P := True) (f' := (7, [some (vI 5), some (vI 0), some (vI ((F 0) - 1))], [vI ((F 0) - 1), vI 5], LAY (u (u (u (u (u (u (u (u (u (shA A) 8 l8) 9 l9) 10 l10) 11 l11) 75 l75) 76 l76) 77 l77) 78 l78) 86 l86) (u (u (u (shF F) 14 mg) 15 lo) 1 (F 3)), 0, 0)) hc104 2 rfl trivial ?_
  refine R_ic (t := 14) hc104 rfl rfl (fun (z : (F 0) - 1 < 5) => absurd z (by omega)) (fun (_ : ¬ ((F 0) - 1 < 5)) => ?_)
  refine R_s (P := True) (f' := (15, [some (vI 5), some (vI 0), some (vI ((F 0) - 1))], [vI 1], LAY (u (u (u (u (u (u (u (u (u (shA A) 8 l8) 9 l9) 10 l10) 11 l11) 75 l75) 76 l76) 77 l77) 78 l78) 86 l86) (u (u (u (shF F) 14 mg) 15 lo) 1 (F 3)), 0, 0)) hc104 2 rfl trivial ?_
  refine R_retz hc104 rfl rfl (Or.inr rfl) ?_
  refine R_s (f' := (11, [some (vR 88), some (vI 5)], [vI 1], LAY (u (u (u (u (u (u (u (u (u (shA A) 8 l8) 9 l9) 10 l10) 11 l11) 75 l75) 76 l76) 77 l77) 78 l78) 86 l86) (u (u (u (shF F) 14 mg) 15 lo) 1 (F 3)), 0, 0)) hc108 0 rfl trivial ?_
  refine R_retz hc108 rfl rfl (Or.inr rfl) ?_
  refine R_s (f' := (5, [some (vR 88), some (vI 5), none], [vI 1], LAY (u (u (u (u (u (u (u (u (u (shA A) 8 l8) 9 l9) 10 l10) 11 l11) 75 l75) 76 l76) 77 l77) 78 l78) 86 l86) (u (u (u (shF F) 14 mg) 15 lo) 1 (F 3)), 0, 0)) hc164 0 rfl trivial ?_
  refine R_if (t := 15) hc164 rfl rfl (fun (_ : ¬ 1 = 0) => ?_) (fun (z : ¬ (¬ 1 = 0)) => absurd (by decide) z)
  refine R_s (P := True) (f' := (17, [some (vR 88), some (vI 5), none], [vI 5, vR 88], LAY (u (u (u (u (u (u (u (u (u (shA A) 8 l8) 9 l9) 10 l10) 11 l11) 75 l75) 76 l76) 77 l77) 78 l78) 86 l86) (u (u (u (shF F) 14 mg) 15 lo) 1 (F 3)), 0, 0)) hc164 2 rfl trivial ?_
  refine R_cv hc164 rfl rfl (l_worksR hR0 (A1 := (u (u (u (u (u (u (u (u (u (shA A) 8 l8) 9 l9) 10 l10) 11 l11) 75 l75) 76 l76) 77 l77) 78 l78) 86 l86)) (F1 := (u (u (u (shF F) 14 mg) 15 lo) 1 (F 3))) rfl rfl rfl rfl rfl rfl rfl rfl rfl rfl rfl rfl rfl (hL 104 (by decide)) (hL 105 (by decide)) (hL 107 (by decide)) (hL 108 (by decide)) (hL 109 (by decide)) (hL 110 (by decide)) (hL 111 (by decide)) hD.1 hD.2 rfl hS) (fun r G9 hp9 => ?_)
  obtain ⟨rfl, l104, l105, l107, l108, l109, l110, l111, ac, rfl, k104, k105, k107, k108, k109, k110, k111, hac, w107, w108⟩ := hp9
  refine R_s (f' := (20, [some (vR 88), some (vI 5), none], [], LAY (u (u (u (u (u (u (u (u (u (u (u (u (u (u (u (u (shA A) 8 l8) 9 l9) 10 l10) 11 l11) 75 l75) 76 l76) 77 l77) 78 l78) 86 l86) 109 l109) 104 l104) 105 l105) 110 l110) 111 l111) 108 l108) 107 l107) (u (u (u (u (u (u (u (shF F) 14 mg) 15 lo) 1 (F 3)) 28 (N_Y A F 5)) 29 ac) 30 mg) 31 lo), 0, 0)) hc164 0 rfl trivial ?_
  refine R_s (P := True) (f' := (30, [some (vR 88), some (vI 5), some (vI 0)], [], LAY (u (u (u (u (u (u (u (u (u (u (u (u (u (u (u (u (shA A) 8 l8) 9 l9) 10 l10) 11 l11) 75 l75) 76 l76) 77 l77) 78 l78) 86 l86) 109 l109) 104 l104) 105 l105) 110 l110) 111 l111) 108 l108) 107 l107) (u (u (u (u (u (u (u (u (shF F) 14 mg) 15 lo) 1 (F 3)) 28 (N_Y A F 5)) 29 ac) 30 mg) 31 lo) 32 (F 3)), 0, 0)) hc164 6 rfl trivial ?_
  refine lay_M (A := (u (u (u (u (u (u (u (u (u (u (u (u (u (u (u (u (shA A) 8 l8) 9 l9) 10 l10) 11 l11) 75 l75) 76 l76) 77 l77) 78 l78) 86 l86) 109 l109) 104 l104) 105 l105) 110 l110) 111 l111) 108 l108) 107 l107)) (F := (u (u (u (u (u (u (u (u (shF F) 14 mg) 15 lo) 1 (F 3)) 28 (N_Y A F 5)) 29 ac) 30 mg) 31 lo) 32 (F 3))) (n := (F 3).toNat) (R_n hR0) (R_n30 hR0) k108 (hL 86 (by decide)) (fun y l112 k112 v112 v112b => ?_)
  have e12 : l112 = l86 := list_ext (by rw [k112, k86]) (fun j hj => by
    by_cases q : j < (F 3).toNat
    · rw [v112 j q, v86 j q]
      exact (w108 j q).trans (v77 j q).symm
    · rw [v112b j (by omega), v86b j (by omega)]
      rfl)
  rw [e12]
  refine R_s (P := True) (f' := (60, [some (vR 88), some (vI 5), some (vI y)], [vI (F 3)], LAY (u (u (u (u (u (u (u (u (u (u (u (u (u (u (u (u (u (shA A) 8 l8) 9 l9) 10 l10) 11 l11) 75 l75) 76 l76) 77 l77) 78 l78) 86 l86) 109 l109) 104 l104) 105 l105) 110 l110) 111 l111) 108 l108) 107 l107) 112 l86) (u (u (u (u (u (u (u (u (shF F) 14 mg) 15 lo) 1 (F 3)) 28 (N_Y A F 5)) 29 ac) 30 mg) 31 lo) 32 (F 3)), 0, 0)) hc164 2 rfl trivial ?_
  refine R_reti hc164 rfl rfl ?_
  first
    | (exfalso; omega; done)
    | exact ⟨rfl, (u (u (u (u (u (u (u (u (u (u (u (u (u (u (u (u A 8 l8) 9 l9) 10 l10) 11 l11) 75 l75) 76 l76) 77 l77) 78 l78) 86 l86) 109 l109) 104 l104) 105 l105) 110 l110) 111 l111) 108 l108) 107 l107), (u (u (u (u (u (u (u F 14 mg) 15 lo) 1 (F 3)) 28 (N_Y A F 5)) 29 ac) 30 mg) 31 lo), rfl, rfl, ⟨(LENS_u (LENS_u (LENS_u (LENS_u (LENS_u (LENS_u (LENS_u (LENS_u (LENS_u (LENS_u (LENS_u (LENS_u (LENS_u (LENS_u (LENS_u (LENS_u hL (by show (l8).length = (A 8).length; rw [k8, hL 8 (by decide)]; rfl)) (by show (l9).length = (A 9).length; rw [k9, hL 9 (by decide)]; rfl)) (by show (l10).length = (A 10).length; rw [k10, hL 10 (by decide)]; rfl)) (by show (l11).length = (A 11).length; rw [k11, hL 11 (by decide)]; rfl)) (by show (l75).length = (A 75).length; rw [k75, hL 75 (by decide)]; rfl)) (by show (l76).length = (A 76).length; rw [k76, hL 76 (by decide)]; rfl)) (by show (l77).length = (A 77).length; rw [k77, hL 77 (by decide)]; rfl)) (by show (l78).length = (A 78).length; rw [k78, hL 78 (by decide)]; rfl)) (by show (l86).length = (A 86).length; rw [k86, hL 86 (by decide)]; rfl)) (by show (l109).length = (A 109).length; rw [k109, hL 109 (by decide)]; rfl)) (by show (l104).length = (A 104).length; rw [k104, hL 104 (by decide)]; rfl)) (by show (l105).length = (A 105).length; rw [k105, hL 105 (by decide)]; rfl)) (by show (l110).length = (A 110).length; rw [k110, hL 110 (by decide)]; rfl)) (by show (l111).length = (A 111).length; rw [k111, hL 111 (by decide)]; rfl)) (by show (l108).length = (A 108).length; rw [k108, hL 108 (by decide)]; rfl)) (by show (l107).length = (A 107).length; rw [k107, hL 107 (by decide)]; rfl)), hR0.2.1, hR0.2.2.1, hR0.2.2.2.1, hR0.2.2.2.2.1, hR0.2.2.2.2.2.1, hR0.2.2.2.2.2.2.1, hR0.2.2.2.2.2.2.2.1, ⟨(show -1 ≤ F 3 by omega), (show F 3 ≤ 30 by omega)⟩, (REFU_c hR0.2.2.2.2.2.2.2.2.2)⟩⟩

theorem op_lay {c : Int} {A : Nat → List Int} {F : Nat → Int} (hR : REL c A F) (hc : c < 512) (d : Int) (i_d : inI d) : R 88 (0, L0 88 [vR 1, vI d], [], LAY (shA A) (shF F), 0, 0) (fun r G => (∃ x, r = some (vI x)) ∧ (∃ (A1 : Nat → List Int) (F1 : Nat → Int), G = LAY A1 F1 ∧ A1 0 = A 0) ∧ R 164 (0, L0 164 [vR 88, vI d], [], G, 0, 0) (fun r2 G2 => r2 = r ∧ ∃ (A' : Nat → List Int) (F' : Nat → Int), G2 = LAY (shA A') (shF F') ∧ A' 0 = A 0 ∧ REL (c + 1) A' F')) := by
  by_cases h0 : d < 0
  · exact op_lay_n hR hc d i_d h0
  by_cases h1 : F 0 ≤ d
  · exact op_lay_b hR hc d i_d ⟨by omega, h1⟩
  have h6 := hR.2.2.2.2.1.1.2
  obtain e | e | e | e | e | e : d = 0 ∨ d = 1 ∨ d = 2 ∨ d = 3 ∨ d = 4 ∨ d = 5 := by omega
  all_goals subst e
  · exact op_lay_0 hR hc   (by omega)
  · exact op_lay_1 hR hc   (by omega)
  · exact op_lay_2 hR hc   (by omega)
  · exact op_lay_3 hR hc   (by omega)
  · exact op_lay_4 hR hc   (by omega)
  · exact op_lay_5 hR hc   (by omega)

