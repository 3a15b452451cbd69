/-! the law's years -/
def YB (sc : List Int) (y c : Int) (A : Nat → List Int) (F : Nat → Int) : Prop := REL c A F ∧ A 0 = sc ∧ F 2 = y ∧ F 0 = 2 ∧ 1 ≤ F 3 ∧ S0 A F ∧ S1 A F
def TOT (A : Nat → List Int) (F : Nat → Int) : Int := sm (fun p => rd (A 84) p) (F 3).toNat + sm (fun h => rd (A 85) h) 8
section
variable {sc : List Int} {y c : Int} {A A' A0 : Nat → List Int} {F F' F0 : Nat → Int}
theorem YB_P (h : YB sc y c A F) (hR : REL (c + 1) A' F') (e : A' 0 = A 0) (hp : PST A F A' F') : YB sc y (c + 1) A' F' := by
  have hk := PST_KP hp
  exact ⟨hR, e.trans h.2.1, hk.1.trans h.2.2.1, hk.2.2.2.1.trans h.2.2.2.1, Int.le_trans h.2.2.2.2.1 hk.2.2.2.2.1, S0_L hk.2.2.2.2.2 h.2.2.2.2.2.1, S1_L hk.2.2.2.2.2 h.2.2.2.2.2.2⟩
theorem YB_K (h : YB sc y c A F) (hR : REL (c + 1) A' F') (e : A' 0 = A 0) (hk : KP A F A' F') : YB sc y (c + 1) A' F' :=
  ⟨hR, e.trans h.2.1, hk.1.trans h.2.2.1, hk.2.2.2.1.trans h.2.2.2.1, Int.le_trans h.2.2.2.2.1 hk.2.2.2.2.1, S0_L hk.2.2.2.2.2 h.2.2.2.2.2.1, S1_L hk.2.2.2.2.2 h.2.2.2.2.2.2⟩
theorem sm_s {g : Nat → Int} {i : Int} (h : 0 ≤ i) : sm g (i + 1).toNat = sm g i.toNat + g i.toNat := by
  rw [show (i + 1).toNat = i.toNat + 1 by omega]
  rfl
theorem sm_pt {g : Nat → Int} {E : Nat} (hg : ∀ i, i < E → 0 ≤ g i) : ∀ j : Nat, j ≤ E → 0 ≤ sm g j ∧ sm g j ≤ sm g E := by
  induction E with
  | zero =>
    intro j hj
    rw [show j = 0 by omega]
    exact ⟨Int.le_refl _, Int.le_refl _⟩
  | succ E ih =>
    intro j hj
    have h1 := hg E (by omega)
    have h2 : sm g (E + 1) = sm g E + g E := rfl
    by_cases q : j = E + 1
    · have z := ih (fun i hi => hg i (by omega)) E (Nat.le_refl _)
      rw [q]
      omega
    · have z := ih (fun i hi => hg i (by omega)) j (by omega)
      omega
def atv (l : List Int) (k : Int) : Int := if k < (l.length : Int) then rd l k else 0
theorem atv_in (hsc : ∀ z ∈ sc, inI z) (k : Int) : inI (atv sc k) := by
  unfold atv
  split
  · exact rd_in hsc k
  · exact ⟨by decide, by decide⟩
theorem at_ok2 (e : A 0 = sc) (hlen : sc.length ≤ 260) (hsc : ∀ z ∈ sc, inI z) (k : Int) (hk : 0 ≤ k) : R 170 (0, L0 170 [vR 0, vI k], [], LAY (shA A) (shF F), 0, 0) (fun r G => r = some (vI (atv sc k)) ∧ G = LAY (shA A) (shF F)) := by
  subst e
  have hlen2 : (A 0).length ≤ 2560 := by omega
  refine R_s (P := ((A 0).length ≤ 2560) ∧ True) (f' := (3, [some (vR 0), some (vI k)], [vI ((A 0).length : Int), vI k], LAY (shA A) (shF F), 0, 0)) hc170 3 rfl ⟨hlen2, trivial⟩ ?_
  refine R_ic (t := 12) hc170 rfl rfl (fun (c1 : ((A 0).length : Int) ≤ k) => ?_) (fun (c1 : ¬ (((A 0).length : Int) ≤ k)) => ?_)
  · refine R_s (P := True) (f' := (13, [some (vR 0), some (vI k)], [vI 0], LAY (shA A) (shF F), 0, 0)) hc170 1 rfl trivial ?_
    exact R_reti hc170 rfl rfl ⟨congrArg (fun z => some (vI z)) ((if_neg (by omega)).symm : _ = atv (A 0) k), rfl⟩
  · refine R_s (P := (0 ≤ k ∧ k < ((A 0).length : Int)) ∧ True) (f' := (13, [some (vR 0), some (vI k)], [vI (rd (A 0) k)], LAY (shA A) (shF F), 0, 0)) hc170 4 rfl ⟨⟨by omega, by omega⟩, trivial⟩ ?_
    exact R_reti hc170 rfl rfl ⟨congrArg (fun z => some (vI z)) ((if_pos (by omega)).symm : _ = atv (A 0) k), rfl⟩
/-- what a loop over ends, over persons wants -/
theorem gE_pt (hR : REL c A F) {d : Nat} (hd : (d : Int) < F 0) (h12 : s12 (N_Q A (21 + 9 * d)) (F (d + 8)).toNat ≤ 12) {i : Int} (h0 : 0 ≤ i) (h1 : i < F (d + 8)) : 0 ≤ sm (gE A F d) i.toNat ∧ 0 ≤ gE A F d i.toNat ∧ sm (gE A F d) i.toNat + gE A F d i.toNat ≤ 99990 := by
  have z := sm_pt (g := gE A F d) (fun j hj => gE_nn hR hd h12 j hj)
  have z1 := z i.toNat (by omega)
  have z2 := z (i.toNat + 1) (by omega)
  have e1 : sm (gE A F d) (i.toNat + 1) = sm (gE A F d) i.toNat + gE A F d i.toNat := rfl
  have e2 : sm (gE A F d) (F (d + 8)).toNat = N_Y A F d := gE_sm hR hd
  have e3 := N_Y_bd hR (d := d) ⟨by omega, by have := hR.2.2.2.2.1.1.2; omega⟩
  have e4 := gE_nn hR hd h12 i.toNat (by omega)
  omega
theorem gP_pt (hR : REL c A F) {d : Nat} (hd : (d : Int) < F 0) {i : Int} (h0 : 0 ≤ i) (h1 : i < F 3) : 0 ≤ sm (gP A F d) i.toNat ∧ sm (gP A F d) i.toNat ≤ 30000000 ∧ 0 ≤ gP A F d i.toNat ∧ gP A F d i.toNat ≤ 1000000 := by
  have hn := R_n30 hR
  have z := sm_bd (g := gP A F d) (b := 1000000) i.toNat (fun j hj => gP_bd hR d hd j (by omega))
  have z2 := gP_bd hR d hd i.toNat (by omega)
  omega
def lF (A : Nat → List Int) (F : Nat → Int) (d i : Nat) : Int := if rd (N_Q A (21 + 9 * d) 0) i = 1 ∨ rd (N_Q A (21 + 9 * d) 0) i = 2 then gE A F d i else 0
theorem lF_pt (hR : REL c A F) {d : Nat} (hd : (d : Int) < F 0) (h12 : s12 (N_Q A (21 + 9 * d)) (F (d + 8)).toNat ≤ 12) {i : Int} (h0 : 0 ≤ i) (h1 : i < F (d + 8)) : 0 ≤ sm (lF A F d) i.toNat ∧ sm (lF A F d) i.toNat + gE A F d i.toNat ≤ 99990 := by
  have z := gE_pt hR hd h12 h0 h1
  have z2 : sm (lF A F d) i.toNat ≤ sm (gE A F d) i.toNat := sm_le _ (fun j hj => by
    have q := gE_nn hR hd h12 j (by omega)
    unfold lF
    split <;> omega)
  have z3 : 0 ≤ sm (lF A F d) i.toNat := sm_nn _ (fun j hj => by
    have q := gE_nn hR hd h12 j (by omega)
    unfold lF
    split <;> omega)
  omega
theorem acc_pt (hR : REL c A F) {i : Int} (h0 : 0 ≤ i) (h1 : i ≤ 30) : -30000000000000 ≤ sm (fun p => rd (A 84) p) i.toNat ∧ sm (fun p => rd (A 84) p) i.toNat ≤ 30000000000000 ∧ (i < 30 → -1000000000000 ≤ rd (A 84) i ∧ rd (A 84) i ≤ 1000000000000) := by
  have hn := hR.2.2.2.2.2.2.1
  have z := sm_bd2 (g := fun p => rd (A 84) p) (b := 1000000000000) i.toNat (fun j hj => by
    have q := hR.2.2.2.2.2.2.2.1.1 j (by omega) (by omega)
    (try dsimp only)
    omega)
  refine ⟨by omega, by omega, fun h => ?_⟩
  have q := hR.2.2.2.2.2.2.2.1.1 i h0 h
  omega
theorem acc_pt2 (hR : REL c A F) {i : Int} (h0 : 0 ≤ i) (h1 : i ≤ 8) : -30000000000000 ≤ sm (fun p => rd (A 85) p) i.toNat ∧ sm (fun p => rd (A 85) p) i.toNat ≤ 30000000000000 ∧ (i < 8 → -1000000000000 ≤ rd (A 85) i ∧ rd (A 85) i ≤ 1000000000000) := by
  have hn := hR.2.2.2.2.2.2.1
  have z := sm_bd2 (g := fun p => rd (A 85) p) (b := 1000000000000) i.toNat (fun j hj => by
    have q := hR.2.2.2.2.2.2.2.1.2 j (by omega) (by omega)
    (try dsimp only)
    omega)
  refine ⟨by omega, by omega, fun h => ?_⟩
  have q := hR.2.2.2.2.2.2.2.1.2 i h0 h
  omega
theorem F3_30 (hR : REL c A F) : F 3 ≤ 30 := by
  have := R_n30 hR
  omega
theorem TOT_bd (hR : REL c A F) (h : 1 ≤ F 3) : -60000000000000 ≤ TOT A F ∧ TOT A F ≤ 60000000000000 := by
  have z := acc_pt hR (i := F 3) (by omega) (F3_30 hR)
  have z2 := acc_pt2 hR (i := 8) (by decide) (by decide)
  have e : (8 : Int).toNat = 8 := rfl
  rw [e] at z2
  unfold TOT
  omega
end
theorem y0_g {sc : List Int} {y : Int} {post : Option AV → AG → Prop} {A0 : Nat → List Int} {F0 : Nat → Int} {c0 : Int} (hR0 : REL c0 A0 F0) (hF0 : F0 0 = 2) (hF3 : 1 ≤ F0 3) (al : Int) (hd : ((0 : Nat) : Int) < F0 0) (h12 : s12 (N_Q A0 (21 + 9 * 0)) (F0 (0 + 8)).toNat ≤ 12) {cb : Int} (hcb : cb ≤ 100000) (hk : ∀ (s c : Int) (A : Nat → List Int) (F : Nat → Int) (a8 a9 a10 : Option AV), s = N_Y A0 F0 0 → 0 ≤ c → c ≤ cb + 10 → YB sc y c A F → PST A0 F0 A F → R 169 (79, [some (vR 0), some (vR 1), some (vJ al), none, some (vI y), some (vI 0), some (vI s), some (vI (F0 8)), a8, a9, a10], [], LAY (shA A) (shF F), 487, 41141) post) (hE6 : F0 8 ≤ 6) : ∀ (m : Nat) (i s c : Int) (A : Nat → List Int) (F : Nat → Int) (a9 a10 : Option AV), F0 8 - i < m → 0 ≤ i → i ≤ F0 8 → s = sm (gE A0 F0 0) i.toNat → 0 ≤ c → c ≤ cb + i → YB sc y c A F → PST A0 F0 A F → R 169 (42, [some (vR 0), some (vR 1), some (vJ al), none, some (vI y), some (vI 0), some (vI s), some (vI (F0 8)), some (vI i), a9, a10], [], LAY (shA A) (shF F), 487, 41141) post := by
  intro m
  induction m with
  | zero =>
    intro i s c A F a9 a10 hm h0 h1 hs h0c hc hY hP
    exact absurd hm (by push_cast; omega)
  | succ m ih =>
    intro i s c A F a9 a10 hm h0 h1 hs h0c hc hY hP
    refine R_s (P := True) (f' := (46, [some (vR 0), some (vR 1), some (vJ al), none, some (vI y), some (vI 0), some (vI s), some (vI (F0 8)), some (vI i), a9, a10], [vI (F0 8), vI i], LAY (shA A) (shF F), 487, 41141)) hc169 2 rfl trivial ?_
    refine R_ic (t := 79) hc169 rfl rfl (fun (c1 : (F0 8) ≤ i) => ?_) (fun (c1 : ¬ ((F0 8) ≤ i)) => ?_)
    · exact hk s c A F _ _ _ (by rw [hs, show i = F0 8 by omega]; exact gE_sm hR0 (d := 0) hd) h0c (by omega) hY hP
    · refine R_s (P := True) (f' := (54, [some (vR 0), some (vR 1), some (vJ al), none, some (vI y), some (vI 0), some (vI s), some (vI (F0 8)), some (vI i), a9, a10], [vI i, vI 0, vR 1], LAY (shA A) (shF F), 487, 41141)) hc169 3 rfl trivial ?_
      refine R_cv hc169 rfl rfl (op_gets_0 hY.1 (by omega) (i) ⟨by omega, by omega⟩ (by have := hY.2.2.2.1; omega)) (fun r G9 hp9 => ?_)
      obtain ⟨x104, A104, F104, hR104, rfl, rfl, e104, hE104⟩ := hp9
      have hY104 := YB_P hY hR104 e104 hE104.1
      have hP104 := PST_tr hP hE104.1
      have hX104 : x104 = gE A0 F0 0 (i).toNat := (hE104.2.1 (by omega) (by have := hP.2 8 rfl; omega)).trans (gE_P hP (by decide) _)
      have hb104 := gE_pt hR0 (d := 0) hd h12 (i := i) (by omega) (by show i < F0 8; omega)
      have hb2104 := lF_pt hR0 (d := 0) hd h12 (i := i) (by omega) (by show i < F0 8; omega)
      refine R_s (f' := (57, [some (vR 0), some (vR 1), some (vJ al), none, some (vI y), some (vI 0), some (vI s), some (vI (F0 8)), some (vI i), a9, a10], [vI x104], LAY (shA A104) (shF F104), 487, 41141)) hc169 0 rfl trivial ?_
      refine R_s (P := True) (f' := (61, [some (vR 0), some (vR 1), some (vJ al), none, some (vI y), some (vI 0), some (vI s), some (vI (F0 8)), some (vI i), some (vI x104), a10], [vI x104], LAY (shA A104) (shF F104), 487, 41141)) hc169 2 rfl trivial ?_
      refine R_if (t := 66) hc169 rfl rfl (fun (_ : 0 ≤ x104) => ?_) (fun (z : ¬ (0 ≤ x104)) => absurd (show 0 ≤ x104 by omega) z)
      refine R_s (P := inI (s + x104) ∧ inI (i + 1) ∧ True) (f' := (42, [some (vR 0), some (vR 1), some (vJ al), none, some (vI y), some (vI 0), some (vI (s + x104)), some (vI (F0 8)), some (vI (i + 1)), some (vI x104), a10], [], LAY (shA A104) (shF F104), 487, 41141)) hc169 6 rfl ⟨⟨by omega, by omega⟩, ⟨by omega, by omega⟩, trivial⟩ ?_
      exact ih (i + 1) _ _ A104 F104 _ _ (by push_cast at hm; omega) (by omega) (by omega) (by rw [sm_s h0, ← hs, hX104]) (by omega) (by omega) hY104 hP104

theorem y0_d {sc : List Int} {y : Int} {post : Option AV → AG → Prop} {A0 : Nat → List Int} {F0 : Nat → Int} {c0 : Int} (hR0 : REL c0 A0 F0) (hF0 : F0 0 = 2) (hF3 : 1 ≤ F0 3) (al : Int) (hd : ((0 : Nat) : Int) < F0 0) (h12 : s12 (N_Q A0 (21 + 9 * 0)) (F0 (0 + 8)).toNat ≤ 12) (s : Int) {cb : Int} (hcb : cb ≤ 100000) (hk : ∀ (du c : Int) (A : Nat → List Int) (F : Nat → Int) (a9 a10 : Option AV), du = sm (gP A0 F0 0) (F0 3).toNat → 0 ≤ c → c ≤ cb + 100 → YB sc y c A F → PST A0 F0 A F → R 169 (142, [some (vR 0), some (vR 1), some (vJ al), none, some (vI y), some (vI 0), some (vI s), some (vI (F0 8)), some (vI du), a9, a10], [], LAY (shA A) (shF F), 487, 41141) post) (hE30 : F0 3 ≤ 30) : ∀ (m : Nat) (i du c : Int) (A : Nat → List Int) (F : Nat → Int) (a10 : Option AV), F0 3 - i < m → 0 ≤ i → i ≤ F0 3 → du = sm (gP A0 F0 0) i.toNat → 0 ≤ c → c ≤ cb + 2 * i → YB sc y c A F → PST A0 F0 A F → R 169 (113, [some (vR 0), some (vR 1), some (vJ al), none, some (vI y), some (vI 0), some (vI s), some (vI (F0 8)), some (vI du), some (vI i), a10], [], LAY (shA A) (shF F), 487, 41141) post := by
  intro m
  induction m with
  | zero =>
    intro i du c A F a10 hm h0 h1 hs h0c hc hY hP
    exact absurd hm (by push_cast; omega)
  | succ m ih =>
    intro i du c A F a10 hm h0 h1 hs h0c hc hY hP
    refine R_s (P := True) (f' := (117, [some (vR 0), some (vR 1), some (vJ al), none, some (vI y), some (vI 0), some (vI s), some (vI (F0 8)), some (vI du), some (vI i), a10], [vI 1, vR 1, vI i], LAY (shA A) (shF F), 487, 41141)) hc169 3 rfl trivial ?_
    refine R_cv hc169 rfl rfl (op_count hY.1 (by omega) (1) ⟨by decide, by decide⟩) (fun r G9 hp9 => ?_)
    obtain ⟨x105, A105, F105, hR105, rfl, rfl, e105, hE105⟩ := hp9
    have hY105 := YB_P hY hR105 e105 hE105.1
    have hP105 := PST_tr hP hE105.1
    obtain rfl : F0 3 = x105 := ((hE105.2 rfl).trans (hP.2 3 rfl)).symm
    refine R_s (f' := (120, [some (vR 0), some (vR 1), some (vJ al), none, some (vI y), some (vI 0), some (vI s), some (vI (F0 8)), some (vI du), some (vI i), a10], [vI (F0 3), vI i], LAY (shA A105) (shF F105), 487, 41141)) hc169 0 rfl trivial ?_
    refine R_ic (t := 142) hc169 rfl rfl (fun (c1 : (F0 3) ≤ i) => ?_) (fun (c1 : ¬ ((F0 3) ≤ i)) => ?_)
    · exact hk du _ A105 F105 _ _ (by rw [hs, show i = F0 3 by omega]) (by omega) (by omega) hY105 hP105
    · refine R_s (P := True) (f' := (130, [some (vR 0), some (vR 1), some (vJ al), none, some (vI y), some (vI 0), some (vI s), some (vI (F0 8)), some (vI du), some (vI i), a10], [vI i, vI 0, vR 1, vI du], LAY (shA A105) (shF F105), 487, 41141)) hc169 4 rfl trivial ?_
      refine R_cv hc169 rfl rfl (op_due_0 hY105.1 (by omega) (i) ⟨by omega, by omega⟩ (by have := hY105.2.2.2.1; omega)) (fun r G9 hp9 => ?_)
      obtain ⟨x106, A106, F106, hR106, rfl, rfl, e106, hE106⟩ := hp9
      have hY106 := YB_P hY105 hR106 e106 hE106.1
      have hP106 := PST_tr hP105 hE106.1
      have hX106 : x106 = gP A0 F0 0 (i).toNat := (hE106.2 (by omega) (by have := hP105.2 3 rfl; omega)).trans (gP_P hP105 (by decide) _)
      have hb106 := gP_pt hR0 (d := 0) hd (i := i) (by omega) (by omega)
      refine R_s (f' := (133, [some (vR 0), some (vR 1), some (vJ al), none, some (vI y), some (vI 0), some (vI s), some (vI (F0 8)), some (vI du), some (vI i), a10], [vI x106, vI du], LAY (shA A106) (shF F106), 487, 41141)) hc169 0 rfl trivial ?_
      refine R_s (P := inI (du + x106) ∧ inI (i + 1) ∧ True) (f' := (113, [some (vR 0), some (vR 1), some (vJ al), none, some (vI y), some (vI 0), some (vI s), some (vI (F0 8)), some (vI (du + x106)), some (vI (i + 1)), a10], [], LAY (shA A106) (shF F106), 487, 41141)) hc169 4 rfl ⟨⟨by omega, by omega⟩, ⟨by omega, by omega⟩, trivial⟩ ?_
      exact ih (i + 1) _ _ A106 F106 _ (by push_cast at hm; omega) (by omega) (by omega) (by rw [sm_s h0, ← hs, hX106]) (by omega) (by omega) hY106 hP106

theorem y0_l {sc : List Int} {y : Int} {post : Option AV → AG → Prop} {A0 : Nat → List Int} {F0 : Nat → Int} {c0 : Int} (hR0 : REL c0 A0 F0) (hF0 : F0 0 = 2) (hF3 : 1 ≤ F0 3) (al : Int) (hd : ((0 : Nat) : Int) < F0 0) (h12 : s12 (N_Q A0 (21 + 9 * 0)) (F0 (0 + 8)).toNat ≤ 12) (s du : Int) {cb : Int} (hcb : cb ≤ 100000) (hk : ∀ (ln c : Int) (A : Nat → List Int) (F : Nat → Int) (a10 : Option AV), ln = sm (lF A0 F0 0) (F0 8).toNat → 0 ≤ c → c ≤ cb + 30 → YB sc y c A F → PST A0 F0 A F → R 169 (204, [some (vR 0), some (vR 1), some (vJ al), none, some (vI y), some (vI 0), some (vI s), some (vI (F0 8)), some (vI du), some (vI ln), a10], [], LAY (shA A) (shF F), 487, 41141) post) (hE6 : F0 8 ≤ 6) : ∀ (m : Nat) (i ln c : Int) (A : Nat → List Int) (F : Nat → Int), F0 8 - i < m → 0 ≤ i → i ≤ F0 8 → ln = sm (lF A0 F0 0) i.toNat → 0 ≤ c → c ≤ cb + 3 * i → YB sc y c A F → PST A0 F0 A F → R 169 (148, [some (vR 0), some (vR 1), some (vJ al), none, some (vI y), some (vI 0), some (vI s), some (vI (F0 8)), some (vI du), some (vI ln), some (vI i)], [], LAY (shA A) (shF F), 487, 41141) post := by
  intro m
  induction m with
  | zero =>
    intro i ln c A F hm h0 h1 hs h0c hc hY hP
    exact absurd hm (by push_cast; omega)
  | succ m ih =>
    intro i ln c A F hm h0 h1 hs h0c hc hY hP
    refine R_s (P := True) (f' := (152, [some (vR 0), some (vR 1), some (vJ al), none, some (vI y), some (vI 0), some (vI s), some (vI (F0 8)), some (vI du), some (vI ln), some (vI i)], [vI (F0 8), vI i], LAY (shA A) (shF F), 487, 41141)) hc169 2 rfl trivial ?_
    refine R_ic (t := 204) hc169 rfl rfl (fun (c1 : (F0 8) ≤ i) => ?_) (fun (c1 : ¬ ((F0 8) ≤ i)) => ?_)
    · exact hk ln c A F _ (by rw [hs, show i = F0 8 by omega]) h0c (by omega) hY hP
    · refine R_s (P := True) (f' := (163, [some (vR 0), some (vR 1), some (vJ al), none, some (vI y), some (vI 0), some (vI s), some (vI (F0 8)), some (vI du), some (vI ln), some (vI i)], [vI 0, vI i, vI 0, vR 1, vI ln], LAY (shA A) (shF F), 487, 41141)) hc169 5 rfl trivial ?_
      refine R_cv hc169 rfl rfl (op_end_0 hY.1 (by omega) (i) (0) ⟨by omega, by omega⟩ ⟨by decide, by decide⟩ (by have := hY.2.2.2.1; omega)) (fun r G9 hp9 => ?_)
      obtain ⟨x107, A107, F107, hR107, rfl, rfl, e107, hE107⟩ := hp9
      have hY107 := YB_P hY hR107 e107 hE107.1
      have hP107 := PST_tr hP hE107.1
      obtain rfl : rd (A0 21) (i) = x107 := ((hE107.2.2 (by omega) (by have := hP.2 8 rfl; omega) rfl).trans (by rw [hP.1 21 rfl])).symm
      refine R_s (f' := (166, [some (vR 0), some (vR 1), some (vJ al), none, some (vI y), some (vI 0), some (vI s), some (vI (F0 8)), some (vI du), some (vI ln), some (vI i)], [vI (rd (A0 21) (i)), vI ln], LAY (shA A107) (shF F107), 487, 41141)) hc169 0 rfl trivial ?_
      refine R_s (P := True) (f' := (167, [some (vR 0), some (vR 1), some (vJ al), none, some (vI y), some (vI 0), some (vI s), some (vI (F0 8)), some (vI du), some (vI ln), some (vI i)], [vI 1, vI (rd (A0 21) (i)), vI ln], LAY (shA A107) (shF F107), 487, 41141)) hc169 1 rfl trivial ?_
      refine R_ic (t := 183) hc169 rfl rfl (fun (c2 : rd (A0 21) (i) = 1) => ?_) (fun (c2 : ¬ (rd (A0 21) (i) = 1)) => ?_)
      · refine R_s (P := True) (f' := (188, [some (vR 0), some (vR 1), some (vJ al), none, some (vI y), some (vI 0), some (vI s), some (vI (F0 8)), some (vI du), some (vI ln), some (vI i)], [vI i, vI 0, vR 1, vI ln], LAY (shA A107) (shF F107), 487, 41141)) hc169 3 rfl trivial ?_
        refine R_cv hc169 rfl rfl (op_gets_0 hY107.1 (by omega) (i) ⟨by omega, by omega⟩ (by have := hY107.2.2.2.1; omega)) (fun r G9 hp9 => ?_)
        obtain ⟨x108, A108, F108, hR108, rfl, rfl, e108, hE108⟩ := hp9
        have hY108 := YB_P hY107 hR108 e108 hE108.1
        have hP108 := PST_tr hP107 hE108.1
        have hX108 : x108 = gE A0 F0 0 (i).toNat := (hE108.2.1 (by omega) (by have := hP107.2 8 rfl; omega)).trans (gE_P hP107 (by decide) _)
        have hb108 := gE_pt hR0 (d := 0) hd h12 (i := i) (by omega) (by show i < F0 8; omega)
        have hb2108 := lF_pt hR0 (d := 0) hd h12 (i := i) (by omega) (by show i < F0 8; omega)
        refine R_s (f' := (191, [some (vR 0), some (vR 1), some (vJ al), none, some (vI y), some (vI 0), some (vI s), some (vI (F0 8)), some (vI du), some (vI ln), some (vI i)], [vI x108, vI ln], LAY (shA A108) (shF F108), 487, 41141)) hc169 0 rfl trivial ?_
        refine R_s (P := True) (f' := (195, [some (vR 0), some (vR 1), some (vJ al), none, some (vI y), some (vI 0), some (vI s), some (vI (F0 8)), some (vI du), some (vI ln), some (vI i)], [vI x108, vI ln], LAY (shA A108) (shF F108), 487, 41141)) hc169 1 rfl trivial ?_
        have hbl := lF_pt hR0 (d := 0) hd h12 (i := i) (by omega) (by show i < F0 8; omega)
        have hbg := gE_pt hR0 (d := 0) hd h12 (i := i) (by omega) (by show i < F0 8; omega)
        refine R_s (P := inI (ln + x108) ∧ inI (i + 1) ∧ True) (f' := (148, [some (vR 0), some (vR 1), some (vJ al), none, some (vI y), some (vI 0), some (vI s), some (vI (F0 8)), some (vI du), some (vI (ln + x108)), some (vI (i + 1))], [], LAY (shA A108) (shF F108), 487, 41141)) hc169 4 rfl ⟨⟨by omega, by omega⟩, ⟨by omega, by omega⟩, trivial⟩ ?_
        exact ih (i + 1) _ _ A108 F108 (by push_cast at hm; omega) (by omega) (by omega) (by rw [sm_s h0, ← hs]; unfold lF; rw [show N_Q A0 (21 + 9 * 0) 0 = A0 21 from rfl, show ((i.toNat : Nat) : Int) = i by omega, if_pos (by omega), hX108]) (by omega) (by omega) hY108 hP108
      · refine R_s (P := True) (f' := (176, [some (vR 0), some (vR 1), some (vJ al), none, some (vI y), some (vI 0), some (vI s), some (vI (F0 8)), some (vI du), some (vI ln), some (vI i)], [vI 0, vI i, vI 0, vR 1, vI ln], LAY (shA A107) (shF F107), 487, 41141)) hc169 4 rfl trivial ?_
        refine R_cv hc169 rfl rfl (op_end_0 hY107.1 (by omega) (i) (0) ⟨by omega, by omega⟩ ⟨by decide, by decide⟩ (by have := hY107.2.2.2.1; omega)) (fun r G9 hp9 => ?_)
        obtain ⟨x109, A109, F109, hR109, rfl, rfl, e109, hE109⟩ := hp9
        have hY109 := YB_P hY107 hR109 e109 hE109.1
        have hP109 := PST_tr hP107 hE109.1
        obtain rfl : rd (A0 21) (i) = x109 := ((hE109.2.2 (by omega) (by have := hP107.2 8 rfl; omega) rfl).trans (by rw [hP107.1 21 rfl])).symm
        refine R_s (f' := (179, [some (vR 0), some (vR 1), some (vJ al), none, some (vI y), some (vI 0), some (vI s), some (vI (F0 8)), some (vI du), some (vI ln), some (vI i)], [vI (rd (A0 21) (i)), vI ln], LAY (shA A109) (shF F109), 487, 41141)) hc169 0 rfl trivial ?_
        refine R_s (P := True) (f' := (180, [some (vR 0), some (vR 1), some (vJ al), none, some (vI y), some (vI 0), some (vI s), some (vI (F0 8)), some (vI du), some (vI ln), some (vI i)], [vI 2, vI (rd (A0 21) (i)), vI ln], LAY (shA A109) (shF F109), 487, 41141)) hc169 1 rfl trivial ?_
        refine R_ic (t := 194) hc169 rfl rfl (fun (c3 : ¬ rd (A0 21) (i) = 2) => ?_) (fun (c3 : ¬ (¬ rd (A0 21) (i) = 2)) => ?_)
        · refine R_s (P := True) (f' := (195, [some (vR 0), some (vR 1), some (vJ al), none, some (vI y), some (vI 0), some (vI s), some (vI (F0 8)), some (vI du), some (vI ln), some (vI i)], [vI 0, vI ln], LAY (shA A109) (shF F109), 487, 41141)) hc169 1 rfl trivial ?_
          have hbl := lF_pt hR0 (d := 0) hd h12 (i := i) (by omega) (by show i < F0 8; omega)
          have hbg := gE_pt hR0 (d := 0) hd h12 (i := i) (by omega) (by show i < F0 8; omega)
          refine R_s (P := inI (ln + 0) ∧ inI (i + 1) ∧ True) (f' := (148, [some (vR 0), some (vR 1), some (vJ al), none, some (vI y), some (vI 0), some (vI s), some (vI (F0 8)), some (vI du), some (vI (ln + 0)), some (vI (i + 1))], [], LAY (shA A109) (shF F109), 487, 41141)) hc169 4 rfl ⟨⟨by omega, by omega⟩, ⟨by omega, by omega⟩, trivial⟩ ?_
          exact ih (i + 1) _ _ A109 F109 (by push_cast at hm; omega) (by omega) (by omega) (by rw [sm_s h0, ← hs]; unfold lF; rw [show N_Q A0 (21 + 9 * 0) 0 = A0 21 from rfl, show ((i.toNat : Nat) : Int) = i by omega, if_neg (by omega)]) (by omega) (by omega) hY109 hP109
        · refine R_s (P := True) (f' := (188, [some (vR 0), some (vR 1), some (vJ al), none, some (vI y), some (vI 0), some (vI s), some (vI (F0 8)), some (vI du), some (vI ln), some (vI i)], [vI i, vI 0, vR 1, vI ln], LAY (shA A109) (shF F109), 487, 41141)) hc169 3 rfl trivial ?_
          refine R_cv hc169 rfl rfl (op_gets_0 hY109.1 (by omega) (i) ⟨by omega, by omega⟩ (by have := hY109.2.2.2.1; omega)) (fun r G9 hp9 => ?_)
          obtain ⟨x110, A110, F110, hR110, rfl, rfl, e110, hE110⟩ := hp9
          have hY110 := YB_P hY109 hR110 e110 hE110.1
          have hP110 := PST_tr hP109 hE110.1
          have hX110 : x110 = gE A0 F0 0 (i).toNat := (hE110.2.1 (by omega) (by have := hP109.2 8 rfl; omega)).trans (gE_P hP109 (by decide) _)
          have hb110 := gE_pt hR0 (d := 0) hd h12 (i := i) (by omega) (by show i < F0 8; omega)
          have hb2110 := lF_pt hR0 (d := 0) hd h12 (i := i) (by omega) (by show i < F0 8; omega)
          refine R_s (f' := (191, [some (vR 0), some (vR 1), some (vJ al), none, some (vI y), some (vI 0), some (vI s), some (vI (F0 8)), some (vI du), some (vI ln), some (vI i)], [vI x110, vI ln], LAY (shA A110) (shF F110), 487, 41141)) hc169 0 rfl trivial ?_
          refine R_s (P := True) (f' := (195, [some (vR 0), some (vR 1), some (vJ al), none, some (vI y), some (vI 0), some (vI s), some (vI (F0 8)), some (vI du), some (vI ln), some (vI i)], [vI x110, vI ln], LAY (shA A110) (shF F110), 487, 41141)) hc169 1 rfl trivial ?_
          have hbl := lF_pt hR0 (d := 0) hd h12 (i := i) (by omega) (by show i < F0 8; omega)
          have hbg := gE_pt hR0 (d := 0) hd h12 (i := i) (by omega) (by show i < F0 8; omega)
          refine R_s (P := inI (ln + x110) ∧ inI (i + 1) ∧ True) (f' := (148, [some (vR 0), some (vR 1), some (vJ al), none, some (vI y), some (vI 0), some (vI s), some (vI (F0 8)), some (vI du), some (vI (ln + x110)), some (vI (i + 1))], [], LAY (shA A110) (shF F110), 487, 41141)) hc169 4 rfl ⟨⟨by omega, by omega⟩, ⟨by omega, by omega⟩, trivial⟩ ?_
          exact ih (i + 1) _ _ A110 F110 (by push_cast at hm; omega) (by omega) (by omega) (by rw [sm_s h0, ← hs]; unfold lF; rw [show N_Q A0 (21 + 9 * 0) 0 = A0 21 from rfl, show ((i.toNat : Nat) : Int) = i by omega, if_pos (by omega), hX110]) (by omega) (by omega) hY110 hP110

theorem y0 {sc : List Int} {y : Int} {post : Option AV → AG → Prop} {A0 : Nat → List Int} {F0 : Nat → Int} {c0 : Int} (hR0 : REL c0 A0 F0) (hF0 : F0 0 = 2) (hF3 : 1 ≤ F0 3) (al : Int) (hal : -70000000000000 ≤ al ∧ al ≤ 70000000000000) (hd : ((0 : Nat) : Int) < F0 0) (h12 : s12 (N_Q A0 (21 + 9 * 0)) (F0 (0 + 8)).toNat ≤ 12) {cb : Int} (hcb : cb ≤ 90000) (hk : ∀ (c : Int) (A : Nat → List Int) (F : Nat → Int) (a6 a7 a8 a9 a10 : Option AV), 0 ≤ c → c ≤ cb + 200 → YB sc y c A F → PST A0 F0 A F → R 169 (20, [some (vR 0), some (vR 1), some (vJ (al + N_Y A0 F0 0)), none, some (vI y), some (vI 1), a6, a7, a8, a9, a10], [], LAY (shA A) (shF F), 487, 41141) post) (c : Int) (A : Nat → List Int) (F : Nat → Int) (a6 a7 a8 a9 a10 : Option AV) (h0c : 0 ≤ c) (hc : c ≤ cb) (hY : YB sc y c A F) (hP : PST A0 F0 A F) : R 169 (20, [some (vR 0), some (vR 1), some (vJ al), none, some (vI y), some (vI 0), a6, a7, a8, a9, a10], [], LAY (shA A) (shF F), 487, 41141) post := by
  have hQ := (D_any hR0 0 hd).1
  have hE6 : F0 8 ≤ 6 := by
    have h8 : (F0 8).toNat ≤ 6 := hQ.2.1
    omega
  have hE1 : 1 ≤ F0 8 := by
    have h8 : 1 ≤ (F0 8).toNat := hQ.1
    omega
  have hNb := N_Y_bd hR0 (d := 0) ⟨by omega, by omega⟩
  refine R_s (P := True) (f' := (23, [some (vR 0), some (vR 1), some (vJ al), none, some (vI y), some (vI 0), a6, a7, a8, a9, a10], [vI 2, vI 0], LAY (shA A) (shF F), 487, 41141)) hc169 2 rfl trivial ?_
  refine R_ic (t := 229) hc169 rfl rfl (fun (z : 2 ≤ 0) => absurd z (by decide)) (fun (_ : ¬ (2 ≤ 0)) => ?_)
  refine R_s (P := True) (f' := (34, [some (vR 0), some (vR 1), some (vJ al), none, some (vI y), some (vI 0), some (vI 0), a7, a8, a9, a10], [vI 0, vI (-1), vI 0, vR 1], LAY (shA A) (shF F), 487, 41141)) hc169 6 rfl trivial ?_
  refine R_cv hc169 rfl rfl (op_end_0 hY.1 (by omega) ((-1)) (0) ⟨by decide, by decide⟩ ⟨by decide, by decide⟩ (by have := hY.2.2.2.1; omega)) (fun r G9 hp9 => ?_)
  obtain ⟨x111, A111, F111, hR111, rfl, rfl, e111, hE111⟩ := hp9
  have hY111 := YB_P hY hR111 e111 hE111.1
  have hP111 := PST_tr hP hE111.1
  obtain rfl : F0 8 = x111 := (hE111.2.1 rfl rfl).trans (hP.2 8 rfl) |>.symm
  refine R_s (f' := (37, [some (vR 0), some (vR 1), some (vJ al), none, some (vI y), some (vI 0), some (vI 0), a7, a8, a9, a10], [vI (F0 8)], LAY (shA A111) (shF F111), 487, 41141)) hc169 0 rfl trivial ?_
  refine R_s (P := True) (f' := (42, [some (vR 0), some (vR 1), some (vJ al), none, some (vI y), some (vI 0), some (vI 0), some (vI (F0 8)), some (vI 0), a9, a10], [], LAY (shA A111) (shF F111), 487, 41141)) hc169 3 rfl trivial ?_
  refine y0_g (sc := sc) (y := y) hR0 hF0 hF3 al hd h12 (cb := c + 1) (by omega) (fun s c112 A112 F112 a8 a9 a10 hs h0c112 hc112 hY112 hP112 => ?_) hE6 7 0 _ _ A111 F111 _ _ (by omega) (by omega) (by omega) rfl (by omega) (by omega) hY111 hP111
  refine R_s (P := True) (f' := (84, [some (vR 0), some (vR 1), some (vJ al), none, some (vI y), some (vI 0), some (vI s), some (vI (F0 8)), a8, a9, a10], [vI 0, vR 1, vI s], LAY (shA A112) (shF F112), 487, 41141)) hc169 3 rfl trivial ?_
  refine R_cv hc169 rfl rfl (op_yields_0 hY112.1 (by omega)   (by have := hY112.2.2.2.1; omega)) (fun r G9 hp9 => ?_)
  obtain ⟨x113, A113, F113, hR113, rfl, rfl, e113, hE113⟩ := hp9
  have hY113 := YB_P hY112 hR113 e113 hE113.1
  have hP113 := PST_tr hP112 hE113.1
  obtain rfl : s = x113 := hs.trans (hE113.2.trans (N_Y_P hP112 _)).symm
  refine R_s (f' := (87, [some (vR 0), some (vR 1), some (vJ al), none, some (vI y), some (vI 0), some (vI s), some (vI (F0 8)), a8, a9, a10], [vI s, vI s], LAY (shA A113) (shF F113), 487, 41141)) hc169 0 rfl trivial ?_
  refine R_ic (t := 105) hc169 rfl rfl (fun (z : ¬ s = s) => absurd z (by omega)) (fun (_ : ¬ (¬ s = s)) => ?_)
  refine R_s (P := True) (f' := (93, [some (vR 0), some (vR 1), some (vJ al), none, some (vI y), some (vI 0), some (vI s), some (vI (F0 8)), a8, a9, a10], [vI 0, vR 1], LAY (shA A113) (shF F113), 487, 41141)) hc169 2 rfl trivial ?_
  refine R_cv hc169 rfl rfl (op_left_0 hY113.1 (by omega)   (by have := hY113.2.2.2.1; omega)) (fun r G9 hp9 => ?_)
  obtain ⟨x114, A114, F114, hR114, rfl, rfl, e114, hE114⟩ := hp9
  have hY114 := YB_P hY113 hR114 e114 hE114.1
  have hP114 := PST_tr hP113 hE114.1
  have hX114 : x114 ≤ s := Int.le_trans (Int.le_of_eq hE114.2) (Int.le_trans (gL_le (d := 0) hY113.1 (by have := hY113.2.2.2.1; omega)) (Int.le_of_eq ((N_Y_P hP113 _).trans hs.symm)))
  refine R_s (f' := (96, [some (vR 0), some (vR 1), some (vJ al), none, some (vI y), some (vI 0), some (vI s), some (vI (F0 8)), a8, a9, a10], [vI x114], LAY (shA A114) (shF F114), 487, 41141)) hc169 0 rfl trivial ?_
  refine R_s (P := True) (f' := (99, [some (vR 0), some (vR 1), some (vJ al), none, some (vI y), some (vI 0), some (vI s), some (vI (F0 8)), a8, a9, a10], [vI 0, vR 1, vI x114], LAY (shA A114) (shF F114), 487, 41141)) hc169 2 rfl trivial ?_
  refine R_cv hc169 rfl rfl (op_yields_0 hY114.1 (by omega)   (by have := hY114.2.2.2.1; omega)) (fun r G9 hp9 => ?_)
  obtain ⟨x115, A115, F115, hR115, rfl, rfl, e115, hE115⟩ := hp9
  have hY115 := YB_P hY114 hR115 e115 hE115.1
  have hP115 := PST_tr hP114 hE115.1
  obtain rfl : s = x115 := hs.trans (hE115.2.trans (N_Y_P hP114 _)).symm
  refine R_s (f' := (102, [some (vR 0), some (vR 1), some (vJ al), none, some (vI y), some (vI 0), some (vI s), some (vI (F0 8)), a8, a9, a10], [vI s, vI x114], LAY (shA A115) (shF F115), 487, 41141)) hc169 0 rfl trivial ?_
  refine R_ic (t := 107) hc169 rfl rfl (fun (_ : x114 ≤ s) => ?_) (fun (z : ¬ (x114 ≤ s)) => absurd (show x114 ≤ s by omega) z)
  refine R_s (P := True) (f' := (113, [some (vR 0), some (vR 1), some (vJ al), none, some (vI y), some (vI 0), some (vI s), some (vI (F0 8)), some (vI 0), some (vI 0), a10], [], LAY (shA A115) (shF F115), 487, 41141)) hc169 4 rfl trivial ?_
  refine y0_d (sc := sc) (y := y) hR0 hF0 hF3 al hd h12 s (cb := c112 + 1 + 1 + 1) (by omega) (fun du c116 A116 F116 a9 a10 hdu h0c116 hc116 hY116 hP116 => ?_) (F3_30 hR0) 31 0 _ _ A115 F115 _ (by have := F3_30 hR0; omega) (by omega) (by omega) rfl (by omega) (by omega) hY115 hP115
  refine R_s (P := True) (f' := (148, [some (vR 0), some (vR 1), some (vJ al), none, some (vI y), some (vI 0), some (vI s), some (vI (F0 8)), some (vI du), some (vI 0), some (vI 0)], [], LAY (shA A116) (shF F116), 487, 41141)) hc169 4 rfl trivial ?_
  refine y0_l (sc := sc) (y := y) hR0 hF0 hF3 al hd h12 s du (cb := c116) (by omega) (fun ln c117 A117 F117 a10 hln h0c117 hc117 hY117 hP117 => ?_) hE6 7 0 _ _ A116 F116 (by omega) (by omega) (by omega) rfl (by omega) (by omega) hY116 hP116
  obtain rfl : du = ln := hdu.trans ((gP_sm hR0 (d := 0) hd).trans hln.symm)
  refine R_s (P := True) (f' := (208, [some (vR 0), some (vR 1), some (vJ al), none, some (vI y), some (vI 0), some (vI s), some (vI (F0 8)), some (vI du), some (vI du), a10], [vI du, vI du], LAY (shA A117) (shF F117), 487, 41141)) hc169 2 rfl trivial ?_
  refine R_ic (t := 213) hc169 rfl rfl (fun (_ : du = du) => ?_) (fun (z : ¬ (du = du)) => absurd (show du = du by omega) z)
  refine R_s (P := True) (f' := (217, [some (vR 0), some (vR 1), some (vJ al), none, some (vI y), some (vI 0), some (vI s), some (vI (F0 8)), some (vI du), some (vI du), a10], [vI 0, vR 1, vJ al], LAY (shA A117) (shF F117), 487, 41141)) hc169 3 rfl trivial ?_
  refine R_cv hc169 rfl rfl (op_yields_0 hY117.1 (by omega)   (by have := hY117.2.2.2.1; omega)) (fun r G9 hp9 => ?_)
  obtain ⟨x118, A118, F118, hR118, rfl, rfl, e118, hE118⟩ := hp9
  have hY118 := YB_P hY117 hR118 e118 hE118.1
  have hP118 := PST_tr hP117 hE118.1
  obtain rfl : s = x118 := hs.trans (hE118.2.trans (N_Y_P hP117 _)).symm
  refine R_s (f' := (220, [some (vR 0), some (vR 1), some (vJ al), none, some (vI y), some (vI 0), some (vI s), some (vI (F0 8)), some (vI du), some (vI du), a10], [vI s, vJ al], LAY (shA A118) (shF F118), 487, 41141)) hc169 0 rfl trivial ?_
  refine R_s (P := inL (al + s) ∧ inI 1 ∧ True) (f' := (20, [some (vR 0), some (vR 1), some (vJ (al + s)), none, some (vI y), some (vI 1), some (vI s), some (vI (F0 8)), some (vI du), some (vI du), a10], [], LAY (shA A118) (shF F118), 487, 41141)) hc169 5 rfl ⟨⟨by omega, by omega⟩, ⟨by omega, by omega⟩, trivial⟩ ?_
  rw [hs]
  exact hk _ A118 F118 _ _ _ _ _ (by omega) (by omega) hY118 hP118

theorem y1_g {sc : List Int} {y : Int} {post : Option AV → AG → Prop} {A0 : Nat → List Int} {F0 : Nat → Int} {c0 : Int} (hR0 : REL c0 A0 F0) (hF0 : F0 0 = 2) (hF3 : 1 ≤ F0 3) (al : Int) (hd : ((1 : Nat) : Int) < F0 0) (h12 : s12 (N_Q A0 (21 + 9 * 1)) (F0 (1 + 8)).toNat ≤ 12) {cb : Int} (hcb : cb ≤ 100000) (hk : ∀ (s c : Int) (A : Nat → List Int) (F : Nat → Int) (a8 a9 a10 : Option AV), s = N_Y A0 F0 1 → 0 ≤ c → c ≤ cb + 10 → YB sc y c A F → PST A0 F0 A F → R 169 (79, [some (vR 0), some (vR 1), some (vJ al), none, some (vI y), some (vI 1), some (vI s), some (vI (F0 9)), a8, a9, a10], [], LAY (shA A) (shF F), 487, 41141) post) (hE6 : F0 9 ≤ 6) : ∀ (m : Nat) (i s c : Int) (A : Nat → List Int) (F : Nat → Int) (a9 a10 : Option AV), F0 9 - i < m → 0 ≤ i → i ≤ F0 9 → s = sm (gE A0 F0 1) i.toNat → 0 ≤ c → c ≤ cb + i → YB sc y c A F → PST A0 F0 A F → R 169 (42, [some (vR 0), some (vR 1), some (vJ al), none, some (vI y), some (vI 1), some (vI s), some (vI (F0 9)), some (vI i), a9, a10], [], LAY (shA A) (shF F), 487, 41141) post := by
  intro m
  induction m with
  | zero =>
    intro i s c A F a9 a10 hm h0 h1 hs h0c hc hY hP
    exact absurd hm (by push_cast; omega)
  | succ m ih =>
    intro i s c A F a9 a10 hm h0 h1 hs h0c hc hY hP
    refine R_s (P := True) (f' := (46, [some (vR 0), some (vR 1), some (vJ al), none, some (vI y), some (vI 1), some (vI s), some (vI (F0 9)), some (vI i), a9, a10], [vI (F0 9), vI i], LAY (shA A) (shF F), 487, 41141)) hc169 2 rfl trivial ?_
    refine R_ic (t := 79) hc169 rfl rfl (fun (c1 : (F0 9) ≤ i) => ?_) (fun (c1 : ¬ ((F0 9) ≤ i)) => ?_)
    · exact hk s c A F _ _ _ (by rw [hs, show i = F0 9 by omega]; exact gE_sm hR0 (d := 1) hd) h0c (by omega) hY hP
    · refine R_s (P := True) (f' := (54, [some (vR 0), some (vR 1), some (vJ al), none, some (vI y), some (vI 1), some (vI s), some (vI (F0 9)), some (vI i), a9, a10], [vI i, vI 1, vR 1], LAY (shA A) (shF F), 487, 41141)) hc169 3 rfl trivial ?_
      refine R_cv hc169 rfl rfl (op_gets_1 hY.1 (by omega) (i) ⟨by omega, by omega⟩ (by have := hY.2.2.2.1; omega)) (fun r G9 hp9 => ?_)
      obtain ⟨x119, A119, F119, hR119, rfl, rfl, e119, hE119⟩ := hp9
      have hY119 := YB_P hY hR119 e119 hE119.1
      have hP119 := PST_tr hP hE119.1
      have hX119 : x119 = gE A0 F0 1 (i).toNat := (hE119.2.1 (by omega) (by have := hP.2 9 rfl; omega)).trans (gE_P hP (by decide) _)
      have hb119 := gE_pt hR0 (d := 1) hd h12 (i := i) (by omega) (by show i < F0 9; omega)
      have hb2119 := lF_pt hR0 (d := 1) hd h12 (i := i) (by omega) (by show i < F0 9; omega)
      refine R_s (f' := (57, [some (vR 0), some (vR 1), some (vJ al), none, some (vI y), some (vI 1), some (vI s), some (vI (F0 9)), some (vI i), a9, a10], [vI x119], LAY (shA A119) (shF F119), 487, 41141)) hc169 0 rfl trivial ?_
      refine R_s (P := True) (f' := (61, [some (vR 0), some (vR 1), some (vJ al), none, some (vI y), some (vI 1), some (vI s), some (vI (F0 9)), some (vI i), some (vI x119), a10], [vI x119], LAY (shA A119) (shF F119), 487, 41141)) hc169 2 rfl trivial ?_
      refine R_if (t := 66) hc169 rfl rfl (fun (_ : 0 ≤ x119) => ?_) (fun (z : ¬ (0 ≤ x119)) => absurd (show 0 ≤ x119 by omega) z)
      refine R_s (P := inI (s + x119) ∧ inI (i + 1) ∧ True) (f' := (42, [some (vR 0), some (vR 1), some (vJ al), none, some (vI y), some (vI 1), some (vI (s + x119)), some (vI (F0 9)), some (vI (i + 1)), some (vI x119), a10], [], LAY (shA A119) (shF F119), 487, 41141)) hc169 6 rfl ⟨⟨by omega, by omega⟩, ⟨by omega, by omega⟩, trivial⟩ ?_
      exact ih (i + 1) _ _ A119 F119 _ _ (by push_cast at hm; omega) (by omega) (by omega) (by rw [sm_s h0, ← hs, hX119]) (by omega) (by omega) hY119 hP119

theorem y1_d {sc : List Int} {y : Int} {post : Option AV → AG → Prop} {A0 : Nat → List Int} {F0 : Nat → Int} {c0 : Int} (hR0 : REL c0 A0 F0) (hF0 : F0 0 = 2) (hF3 : 1 ≤ F0 3) (al : Int) (hd : ((1 : Nat) : Int) < F0 0) (h12 : s12 (N_Q A0 (21 + 9 * 1)) (F0 (1 + 8)).toNat ≤ 12) (s : Int) {cb : Int} (hcb : cb ≤ 100000) (hk : ∀ (du c : Int) (A : Nat → List Int) (F : Nat → Int) (a9 a10 : Option AV), du = sm (gP A0 F0 1) (F0 3).toNat → 0 ≤ c → c ≤ cb + 100 → YB sc y c A F → PST A0 F0 A F → R 169 (142, [some (vR 0), some (vR 1), some (vJ al), none, some (vI y), some (vI 1), some (vI s), some (vI (F0 9)), some (vI du), a9, a10], [], LAY (shA A) (shF F), 487, 41141) post) (hE30 : F0 3 ≤ 30) : ∀ (m : Nat) (i du c : Int) (A : Nat → List Int) (F : Nat → Int) (a10 : Option AV), F0 3 - i < m → 0 ≤ i → i ≤ F0 3 → du = sm (gP A0 F0 1) i.toNat → 0 ≤ c → c ≤ cb + 2 * i → YB sc y c A F → PST A0 F0 A F → R 169 (113, [some (vR 0), some (vR 1), some (vJ al), none, some (vI y), some (vI 1), some (vI s), some (vI (F0 9)), some (vI du), some (vI i), a10], [], LAY (shA A) (shF F), 487, 41141) post := by
  intro m
  induction m with
  | zero =>
    intro i du c A F a10 hm h0 h1 hs h0c hc hY hP
    exact absurd hm (by push_cast; omega)
  | succ m ih =>
    intro i du c A F a10 hm h0 h1 hs h0c hc hY hP
    refine R_s (P := True) (f' := (117, [some (vR 0), some (vR 1), some (vJ al), none, some (vI y), some (vI 1), some (vI s), some (vI (F0 9)), some (vI du), some (vI i), a10], [vI 1, vR 1, vI i], LAY (shA A) (shF F), 487, 41141)) hc169 3 rfl trivial ?_
    refine R_cv hc169 rfl rfl (op_count hY.1 (by omega) (1) ⟨by decide, by decide⟩) (fun r G9 hp9 => ?_)
    obtain ⟨x120, A120, F120, hR120, rfl, rfl, e120, hE120⟩ := hp9
    have hY120 := YB_P hY hR120 e120 hE120.1
    have hP120 := PST_tr hP hE120.1
    obtain rfl : F0 3 = x120 := ((hE120.2 rfl).trans (hP.2 3 rfl)).symm
    refine R_s (f' := (120, [some (vR 0), some (vR 1), some (vJ al), none, some (vI y), some (vI 1), some (vI s), some (vI (F0 9)), some (vI du), some (vI i), a10], [vI (F0 3), vI i], LAY (shA A120) (shF F120), 487, 41141)) hc169 0 rfl trivial ?_
    refine R_ic (t := 142) hc169 rfl rfl (fun (c1 : (F0 3) ≤ i) => ?_) (fun (c1 : ¬ ((F0 3) ≤ i)) => ?_)
    · exact hk du _ A120 F120 _ _ (by rw [hs, show i = F0 3 by omega]) (by omega) (by omega) hY120 hP120
    · refine R_s (P := True) (f' := (130, [some (vR 0), some (vR 1), some (vJ al), none, some (vI y), some (vI 1), some (vI s), some (vI (F0 9)), some (vI du), some (vI i), a10], [vI i, vI 1, vR 1, vI du], LAY (shA A120) (shF F120), 487, 41141)) hc169 4 rfl trivial ?_
      refine R_cv hc169 rfl rfl (op_due_1 hY120.1 (by omega) (i) ⟨by omega, by omega⟩ (by have := hY120.2.2.2.1; omega)) (fun r G9 hp9 => ?_)
      obtain ⟨x121, A121, F121, hR121, rfl, rfl, e121, hE121⟩ := hp9
      have hY121 := YB_P hY120 hR121 e121 hE121.1
      have hP121 := PST_tr hP120 hE121.1
      have hX121 : x121 = gP A0 F0 1 (i).toNat := (hE121.2 (by omega) (by have := hP120.2 3 rfl; omega)).trans (gP_P hP120 (by decide) _)
      have hb121 := gP_pt hR0 (d := 1) hd (i := i) (by omega) (by omega)
      refine R_s (f' := (133, [some (vR 0), some (vR 1), some (vJ al), none, some (vI y), some (vI 1), some (vI s), some (vI (F0 9)), some (vI du), some (vI i), a10], [vI x121, vI du], LAY (shA A121) (shF F121), 487, 41141)) hc169 0 rfl trivial ?_
      refine R_s (P := inI (du + x121) ∧ inI (i + 1) ∧ True) (f' := (113, [some (vR 0), some (vR 1), some (vJ al), none, some (vI y), some (vI 1), some (vI s), some (vI (F0 9)), some (vI (du + x121)), some (vI (i + 1)), a10], [], LAY (shA A121) (shF F121), 487, 41141)) hc169 4 rfl ⟨⟨by omega, by omega⟩, ⟨by omega, by omega⟩, trivial⟩ ?_
      exact ih (i + 1) _ _ A121 F121 _ (by push_cast at hm; omega) (by omega) (by omega) (by rw [sm_s h0, ← hs, hX121]) (by omega) (by omega) hY121 hP121

theorem y1_l {sc : List Int} {y : Int} {post : Option AV → AG → Prop} {A0 : Nat → List Int} {F0 : Nat → Int} {c0 : Int} (hR0 : REL c0 A0 F0) (hF0 : F0 0 = 2) (hF3 : 1 ≤ F0 3) (al : Int) (hd : ((1 : Nat) : Int) < F0 0) (h12 : s12 (N_Q A0 (21 + 9 * 1)) (F0 (1 + 8)).toNat ≤ 12) (s du : Int) {cb : Int} (hcb : cb ≤ 100000) (hk : ∀ (ln c : Int) (A : Nat → List Int) (F : Nat → Int) (a10 : Option AV), ln = sm (lF A0 F0 1) (F0 9).toNat → 0 ≤ c → c ≤ cb + 30 → YB sc y c A F → PST A0 F0 A F → R 169 (204, [some (vR 0), some (vR 1), some (vJ al), none, some (vI y), some (vI 1), some (vI s), some (vI (F0 9)), some (vI du), some (vI ln), a10], [], LAY (shA A) (shF F), 487, 41141) post) (hE6 : F0 9 ≤ 6) : ∀ (m : Nat) (i ln c : Int) (A : Nat → List Int) (F : Nat → Int), F0 9 - i < m → 0 ≤ i → i ≤ F0 9 → ln = sm (lF A0 F0 1) i.toNat → 0 ≤ c → c ≤ cb + 3 * i → YB sc y c A F → PST A0 F0 A F → R 169 (148, [some (vR 0), some (vR 1), some (vJ al), none, some (vI y), some (vI 1), some (vI s), some (vI (F0 9)), some (vI du), some (vI ln), some (vI i)], [], LAY (shA A) (shF F), 487, 41141) post := by
  intro m
  induction m with
  | zero =>
    intro i ln c A F hm h0 h1 hs h0c hc hY hP
    exact absurd hm (by push_cast; omega)
  | succ m ih =>
    intro i ln c A F hm h0 h1 hs h0c hc hY hP
    refine R_s (P := True) (f' := (152, [some (vR 0), some (vR 1), some (vJ al), none, some (vI y), some (vI 1), some (vI s), some (vI (F0 9)), some (vI du), some (vI ln), some (vI i)], [vI (F0 9), vI i], LAY (shA A) (shF F), 487, 41141)) hc169 2 rfl trivial ?_
    refine R_ic (t := 204) hc169 rfl rfl (fun (c1 : (F0 9) ≤ i) => ?_) (fun (c1 : ¬ ((F0 9) ≤ i)) => ?_)
    · exact hk ln c A F _ (by rw [hs, show i = F0 9 by omega]) h0c (by omega) hY hP
    · refine R_s (P := True) (f' := (163, [some (vR 0), some (vR 1), some (vJ al), none, some (vI y), some (vI 1), some (vI s), some (vI (F0 9)), some (vI du), some (vI ln), some (vI i)], [vI 0, vI i, vI 1, vR 1, vI ln], LAY (shA A) (shF F), 487, 41141)) hc169 5 rfl trivial ?_
      refine R_cv hc169 rfl rfl (op_end_1 hY.1 (by omega) (i) (0) ⟨by omega, by omega⟩ ⟨by decide, by decide⟩ (by have := hY.2.2.2.1; omega)) (fun r G9 hp9 => ?_)
      obtain ⟨x122, A122, F122, hR122, rfl, rfl, e122, hE122⟩ := hp9
      have hY122 := YB_P hY hR122 e122 hE122.1
      have hP122 := PST_tr hP hE122.1
      obtain rfl : rd (A0 30) (i) = x122 := ((hE122.2.2 (by omega) (by have := hP.2 9 rfl; omega) rfl).trans (by rw [hP.1 30 rfl])).symm
      refine R_s (f' := (166, [some (vR 0), some (vR 1), some (vJ al), none, some (vI y), some (vI 1), some (vI s), some (vI (F0 9)), some (vI du), some (vI ln), some (vI i)], [vI (rd (A0 30) (i)), vI ln], LAY (shA A122) (shF F122), 487, 41141)) hc169 0 rfl trivial ?_
      refine R_s (P := True) (f' := (167, [some (vR 0), some (vR 1), some (vJ al), none, some (vI y), some (vI 1), some (vI s), some (vI (F0 9)), some (vI du), some (vI ln), some (vI i)], [vI 1, vI (rd (A0 30) (i)), vI ln], LAY (shA A122) (shF F122), 487, 41141)) hc169 1 rfl trivial ?_
      refine R_ic (t := 183) hc169 rfl rfl (fun (c2 : rd (A0 30) (i) = 1) => ?_) (fun (c2 : ¬ (rd (A0 30) (i) = 1)) => ?_)
      · refine R_s (P := True) (f' := (188, [some (vR 0), some (vR 1), some (vJ al), none, some (vI y), some (vI 1), some (vI s), some (vI (F0 9)), some (vI du), some (vI ln), some (vI i)], [vI i, vI 1, vR 1, vI ln], LAY (shA A122) (shF F122), 487, 41141)) hc169 3 rfl trivial ?_
        refine R_cv hc169 rfl rfl (op_gets_1 hY122.1 (by omega) (i) ⟨by omega, by omega⟩ (by have := hY122.2.2.2.1; omega)) (fun r G9 hp9 => ?_)
        obtain ⟨x123, A123, F123, hR123, rfl, rfl, e123, hE123⟩ := hp9
        have hY123 := YB_P hY122 hR123 e123 hE123.1
        have hP123 := PST_tr hP122 hE123.1
        have hX123 : x123 = gE A0 F0 1 (i).toNat := (hE123.2.1 (by omega) (by have := hP122.2 9 rfl; omega)).trans (gE_P hP122 (by decide) _)
        have hb123 := gE_pt hR0 (d := 1) hd h12 (i := i) (by omega) (by show i < F0 9; omega)
        have hb2123 := lF_pt hR0 (d := 1) hd h12 (i := i) (by omega) (by show i < F0 9; omega)
        refine R_s (f' := (191, [some (vR 0), some (vR 1), some (vJ al), none, some (vI y), some (vI 1), some (vI s), some (vI (F0 9)), some (vI du), some (vI ln), some (vI i)], [vI x123, vI ln], LAY (shA A123) (shF F123), 487, 41141)) hc169 0 rfl trivial ?_
        refine R_s (P := True) (f' := (195, [some (vR 0), some (vR 1), some (vJ al), none, some (vI y), some (vI 1), some (vI s), some (vI (F0 9)), some (vI du), some (vI ln), some (vI i)], [vI x123, vI ln], LAY (shA A123) (shF F123), 487, 41141)) hc169 1 rfl trivial ?_
        have hbl := lF_pt hR0 (d := 1) hd h12 (i := i) (by omega) (by show i < F0 9; omega)
        have hbg := gE_pt hR0 (d := 1) hd h12 (i := i) (by omega) (by show i < F0 9; omega)
        refine R_s (P := inI (ln + x123) ∧ inI (i + 1) ∧ True) (f' := (148, [some (vR 0), some (vR 1), some (vJ al), none, some (vI y), some (vI 1), some (vI s), some (vI (F0 9)), some (vI du), some (vI (ln + x123)), some (vI (i + 1))], [], LAY (shA A123) (shF F123), 487, 41141)) hc169 4 rfl ⟨⟨by omega, by omega⟩, ⟨by omega, by omega⟩, trivial⟩ ?_
        exact ih (i + 1) _ _ A123 F123 (by push_cast at hm; omega) (by omega) (by omega) (by rw [sm_s h0, ← hs]; unfold lF; rw [show N_Q A0 (21 + 9 * 1) 0 = A0 30 from rfl, show ((i.toNat : Nat) : Int) = i by omega, if_pos (by omega), hX123]) (by omega) (by omega) hY123 hP123
      · refine R_s (P := True) (f' := (176, [some (vR 0), some (vR 1), some (vJ al), none, some (vI y), some (vI 1), some (vI s), some (vI (F0 9)), some (vI du), some (vI ln), some (vI i)], [vI 0, vI i, vI 1, vR 1, vI ln], LAY (shA A122) (shF F122), 487, 41141)) hc169 4 rfl trivial ?_
        refine R_cv hc169 rfl rfl (op_end_1 hY122.1 (by omega) (i) (0) ⟨by omega, by omega⟩ ⟨by decide, by decide⟩ (by have := hY122.2.2.2.1; omega)) (fun r G9 hp9 => ?_)
        obtain ⟨x124, A124, F124, hR124, rfl, rfl, e124, hE124⟩ := hp9
        have hY124 := YB_P hY122 hR124 e124 hE124.1
        have hP124 := PST_tr hP122 hE124.1
        obtain rfl : rd (A0 30) (i) = x124 := ((hE124.2.2 (by omega) (by have := hP122.2 9 rfl; omega) rfl).trans (by rw [hP122.1 30 rfl])).symm
        refine R_s (f' := (179, [some (vR 0), some (vR 1), some (vJ al), none, some (vI y), some (vI 1), some (vI s), some (vI (F0 9)), some (vI du), some (vI ln), some (vI i)], [vI (rd (A0 30) (i)), vI ln], LAY (shA A124) (shF F124), 487, 41141)) hc169 0 rfl trivial ?_
        refine R_s (P := True) (f' := (180, [some (vR 0), some (vR 1), some (vJ al), none, some (vI y), some (vI 1), some (vI s), some (vI (F0 9)), some (vI du), some (vI ln), some (vI i)], [vI 2, vI (rd (A0 30) (i)), vI ln], LAY (shA A124) (shF F124), 487, 41141)) hc169 1 rfl trivial ?_
        refine R_ic (t := 194) hc169 rfl rfl (fun (c3 : ¬ rd (A0 30) (i) = 2) => ?_) (fun (c3 : ¬ (¬ rd (A0 30) (i) = 2)) => ?_)
        · refine R_s (P := True) (f' := (195, [some (vR 0), some (vR 1), some (vJ al), none, some (vI y), some (vI 1), some (vI s), some (vI (F0 9)), some (vI du), some (vI ln), some (vI i)], [vI 0, vI ln], LAY (shA A124) (shF F124), 487, 41141)) hc169 1 rfl trivial ?_
          have hbl := lF_pt hR0 (d := 1) hd h12 (i := i) (by omega) (by show i < F0 9; omega)
          have hbg := gE_pt hR0 (d := 1) hd h12 (i := i) (by omega) (by show i < F0 9; omega)
          refine R_s (P := inI (ln + 0) ∧ inI (i + 1) ∧ True) (f' := (148, [some (vR 0), some (vR 1), some (vJ al), none, some (vI y), some (vI 1), some (vI s), some (vI (F0 9)), some (vI du), some (vI (ln + 0)), some (vI (i + 1))], [], LAY (shA A124) (shF F124), 487, 41141)) hc169 4 rfl ⟨⟨by omega, by omega⟩, ⟨by omega, by omega⟩, trivial⟩ ?_
          exact ih (i + 1) _ _ A124 F124 (by push_cast at hm; omega) (by omega) (by omega) (by rw [sm_s h0, ← hs]; unfold lF; rw [show N_Q A0 (21 + 9 * 1) 0 = A0 30 from rfl, show ((i.toNat : Nat) : Int) = i by omega, if_neg (by omega)]) (by omega) (by omega) hY124 hP124
        · refine R_s (P := True) (f' := (188, [some (vR 0), some (vR 1), some (vJ al), none, some (vI y), some (vI 1), some (vI s), some (vI (F0 9)), some (vI du), some (vI ln), some (vI i)], [vI i, vI 1, vR 1, vI ln], LAY (shA A124) (shF F124), 487, 41141)) hc169 3 rfl trivial ?_
          refine R_cv hc169 rfl rfl (op_gets_1 hY124.1 (by omega) (i) ⟨by omega, by omega⟩ (by have := hY124.2.2.2.1; omega)) (fun r G9 hp9 => ?_)
          obtain ⟨x125, A125, F125, hR125, rfl, rfl, e125, hE125⟩ := hp9
          have hY125 := YB_P hY124 hR125 e125 hE125.1
          have hP125 := PST_tr hP124 hE125.1
          have hX125 : x125 = gE A0 F0 1 (i).toNat := (hE125.2.1 (by omega) (by have := hP124.2 9 rfl; omega)).trans (gE_P hP124 (by decide) _)
          have hb125 := gE_pt hR0 (d := 1) hd h12 (i := i) (by omega) (by show i < F0 9; omega)
          have hb2125 := lF_pt hR0 (d := 1) hd h12 (i := i) (by omega) (by show i < F0 9; omega)
          refine R_s (f' := (191, [some (vR 0), some (vR 1), some (vJ al), none, some (vI y), some (vI 1), some (vI s), some (vI (F0 9)), some (vI du), some (vI ln), some (vI i)], [vI x125, vI ln], LAY (shA A125) (shF F125), 487, 41141)) hc169 0 rfl trivial ?_
          refine R_s (P := True) (f' := (195, [some (vR 0), some (vR 1), some (vJ al), none, some (vI y), some (vI 1), some (vI s), some (vI (F0 9)), some (vI du), some (vI ln), some (vI i)], [vI x125, vI ln], LAY (shA A125) (shF F125), 487, 41141)) hc169 1 rfl trivial ?_
          have hbl := lF_pt hR0 (d := 1) hd h12 (i := i) (by omega) (by show i < F0 9; omega)
          have hbg := gE_pt hR0 (d := 1) hd h12 (i := i) (by omega) (by show i < F0 9; omega)
          refine R_s (P := inI (ln + x125) ∧ inI (i + 1) ∧ True) (f' := (148, [some (vR 0), some (vR 1), some (vJ al), none, some (vI y), some (vI 1), some (vI s), some (vI (F0 9)), some (vI du), some (vI (ln + x125)), some (vI (i + 1))], [], LAY (shA A125) (shF F125), 487, 41141)) hc169 4 rfl ⟨⟨by omega, by omega⟩, ⟨by omega, by omega⟩, trivial⟩ ?_
          exact ih (i + 1) _ _ A125 F125 (by push_cast at hm; omega) (by omega) (by omega) (by rw [sm_s h0, ← hs]; unfold lF; rw [show N_Q A0 (21 + 9 * 1) 0 = A0 30 from rfl, show ((i.toNat : Nat) : Int) = i by omega, if_pos (by omega), hX125]) (by omega) (by omega) hY125 hP125

theorem y1 {sc : List Int} {y : Int} {post : Option AV → AG → Prop} {A0 : Nat → List Int} {F0 : Nat → Int} {c0 : Int} (hR0 : REL c0 A0 F0) (hF0 : F0 0 = 2) (hF3 : 1 ≤ F0 3) (al : Int) (hal : -70000000000000 ≤ al ∧ al ≤ 70000000000000) (hd : ((1 : Nat) : Int) < F0 0) (h12 : s12 (N_Q A0 (21 + 9 * 1)) (F0 (1 + 8)).toNat ≤ 12) {cb : Int} (hcb : cb ≤ 90000) (hk : ∀ (c : Int) (A : Nat → List Int) (F : Nat → Int) (a6 a7 a8 a9 a10 : Option AV), 0 ≤ c → c ≤ cb + 200 → YB sc y c A F → PST A0 F0 A F → R 169 (20, [some (vR 0), some (vR 1), some (vJ (al + N_Y A0 F0 1)), none, some (vI y), some (vI 2), a6, a7, a8, a9, a10], [], LAY (shA A) (shF F), 487, 41141) post) (c : Int) (A : Nat → List Int) (F : Nat → Int) (a6 a7 a8 a9 a10 : Option AV) (h0c : 0 ≤ c) (hc : c ≤ cb) (hY : YB sc y c A F) (hP : PST A0 F0 A F) : R 169 (20, [some (vR 0), some (vR 1), some (vJ al), none, some (vI y), some (vI 1), a6, a7, a8, a9, a10], [], LAY (shA A) (shF F), 487, 41141) post := by
  have hQ := (D_any hR0 1 hd).1
  have hE6 : F0 9 ≤ 6 := by
    have h8 : (F0 9).toNat ≤ 6 := hQ.2.1
    omega
  have hE1 : 1 ≤ F0 9 := by
    have h8 : 1 ≤ (F0 9).toNat := hQ.1
    omega
  have hNb := N_Y_bd hR0 (d := 1) ⟨by omega, by omega⟩
  refine R_s (P := True) (f' := (23, [some (vR 0), some (vR 1), some (vJ al), none, some (vI y), some (vI 1), a6, a7, a8, a9, a10], [vI 2, vI 1], LAY (shA A) (shF F), 487, 41141)) hc169 2 rfl trivial ?_
  refine R_ic (t := 229) hc169 rfl rfl (fun (z : 2 ≤ 1) => absurd z (by decide)) (fun (_ : ¬ (2 ≤ 1)) => ?_)
  refine R_s (P := True) (f' := (34, [some (vR 0), some (vR 1), some (vJ al), none, some (vI y), some (vI 1), some (vI 0), a7, a8, a9, a10], [vI 0, vI (-1), vI 1, vR 1], LAY (shA A) (shF F), 487, 41141)) hc169 6 rfl trivial ?_
  refine R_cv hc169 rfl rfl (op_end_1 hY.1 (by omega) ((-1)) (0) ⟨by decide, by decide⟩ ⟨by decide, by decide⟩ (by have := hY.2.2.2.1; omega)) (fun r G9 hp9 => ?_)
  obtain ⟨x126, A126, F126, hR126, rfl, rfl, e126, hE126⟩ := hp9
  have hY126 := YB_P hY hR126 e126 hE126.1
  have hP126 := PST_tr hP hE126.1
  obtain rfl : F0 9 = x126 := (hE126.2.1 rfl rfl).trans (hP.2 9 rfl) |>.symm
  refine R_s (f' := (37, [some (vR 0), some (vR 1), some (vJ al), none, some (vI y), some (vI 1), some (vI 0), a7, a8, a9, a10], [vI (F0 9)], LAY (shA A126) (shF F126), 487, 41141)) hc169 0 rfl trivial ?_
  refine R_s (P := True) (f' := (42, [some (vR 0), some (vR 1), some (vJ al), none, some (vI y), some (vI 1), some (vI 0), some (vI (F0 9)), some (vI 0), a9, a10], [], LAY (shA A126) (shF F126), 487, 41141)) hc169 3 rfl trivial ?_
  refine y1_g (sc := sc) (y := y) hR0 hF0 hF3 al hd h12 (cb := c + 1) (by omega) (fun s c127 A127 F127 a8 a9 a10 hs h0c127 hc127 hY127 hP127 => ?_) hE6 7 0 _ _ A126 F126 _ _ (by omega) (by omega) (by omega) rfl (by omega) (by omega) hY126 hP126
  refine R_s (P := True) (f' := (84, [some (vR 0), some (vR 1), some (vJ al), none, some (vI y), some (vI 1), some (vI s), some (vI (F0 9)), a8, a9, a10], [vI 1, vR 1, vI s], LAY (shA A127) (shF F127), 487, 41141)) hc169 3 rfl trivial ?_
  refine R_cv hc169 rfl rfl (op_yields_1 hY127.1 (by omega)   (by have := hY127.2.2.2.1; omega)) (fun r G9 hp9 => ?_)
  obtain ⟨x128, A128, F128, hR128, rfl, rfl, e128, hE128⟩ := hp9
  have hY128 := YB_P hY127 hR128 e128 hE128.1
  have hP128 := PST_tr hP127 hE128.1
  obtain rfl : s = x128 := hs.trans (hE128.2.trans (N_Y_P hP127 _)).symm
  refine R_s (f' := (87, [some (vR 0), some (vR 1), some (vJ al), none, some (vI y), some (vI 1), some (vI s), some (vI (F0 9)), a8, a9, a10], [vI s, vI s], LAY (shA A128) (shF F128), 487, 41141)) hc169 0 rfl trivial ?_
  refine R_ic (t := 105) hc169 rfl rfl (fun (z : ¬ s = s) => absurd z (by omega)) (fun (_ : ¬ (¬ s = s)) => ?_)
  refine R_s (P := True) (f' := (93, [some (vR 0), some (vR 1), some (vJ al), none, some (vI y), some (vI 1), some (vI s), some (vI (F0 9)), a8, a9, a10], [vI 1, vR 1], LAY (shA A128) (shF F128), 487, 41141)) hc169 2 rfl trivial ?_
  refine R_cv hc169 rfl rfl (op_left_1 hY128.1 (by omega)   (by have := hY128.2.2.2.1; omega)) (fun r G9 hp9 => ?_)
  obtain ⟨x129, A129, F129, hR129, rfl, rfl, e129, hE129⟩ := hp9
  have hY129 := YB_P hY128 hR129 e129 hE129.1
  have hP129 := PST_tr hP128 hE129.1
  have hX129 : x129 ≤ s := Int.le_trans (Int.le_of_eq hE129.2) (Int.le_trans (gL_le (d := 1) hY128.1 (by have := hY128.2.2.2.1; omega)) (Int.le_of_eq ((N_Y_P hP128 _).trans hs.symm)))
  refine R_s (f' := (96, [some (vR 0), some (vR 1), some (vJ al), none, some (vI y), some (vI 1), some (vI s), some (vI (F0 9)), a8, a9, a10], [vI x129], LAY (shA A129) (shF F129), 487, 41141)) hc169 0 rfl trivial ?_
  refine R_s (P := True) (f' := (99, [some (vR 0), some (vR 1), some (vJ al), none, some (vI y), some (vI 1), some (vI s), some (vI (F0 9)), a8, a9, a10], [vI 1, vR 1, vI x129], LAY (shA A129) (shF F129), 487, 41141)) hc169 2 rfl trivial ?_
  refine R_cv hc169 rfl rfl (op_yields_1 hY129.1 (by omega)   (by have := hY129.2.2.2.1; omega)) (fun r G9 hp9 => ?_)
  obtain ⟨x130, A130, F130, hR130, rfl, rfl, e130, hE130⟩ := hp9
  have hY130 := YB_P hY129 hR130 e130 hE130.1
  have hP130 := PST_tr hP129 hE130.1
  obtain rfl : s = x130 := hs.trans (hE130.2.trans (N_Y_P hP129 _)).symm
  refine R_s (f' := (102, [some (vR 0), some (vR 1), some (vJ al), none, some (vI y), some (vI 1), some (vI s), some (vI (F0 9)), a8, a9, a10], [vI s, vI x129], LAY (shA A130) (shF F130), 487, 41141)) hc169 0 rfl trivial ?_
  refine R_ic (t := 107) hc169 rfl rfl (fun (_ : x129 ≤ s) => ?_) (fun (z : ¬ (x129 ≤ s)) => absurd (show x129 ≤ s by omega) z)
  refine R_s (P := True) (f' := (113, [some (vR 0), some (vR 1), some (vJ al), none, some (vI y), some (vI 1), some (vI s), some (vI (F0 9)), some (vI 0), some (vI 0), a10], [], LAY (shA A130) (shF F130), 487, 41141)) hc169 4 rfl trivial ?_
  refine y1_d (sc := sc) (y := y) hR0 hF0 hF3 al hd h12 s (cb := c127 + 1 + 1 + 1) (by omega) (fun du c131 A131 F131 a9 a10 hdu h0c131 hc131 hY131 hP131 => ?_) (F3_30 hR0) 31 0 _ _ A130 F130 _ (by have := F3_30 hR0; omega) (by omega) (by omega) rfl (by omega) (by omega) hY130 hP130
  refine R_s (P := True) (f' := (148, [some (vR 0), some (vR 1), some (vJ al), none, some (vI y), some (vI 1), some (vI s), some (vI (F0 9)), some (vI du), some (vI 0), some (vI 0)], [], LAY (shA A131) (shF F131), 487, 41141)) hc169 4 rfl trivial ?_
  refine y1_l (sc := sc) (y := y) hR0 hF0 hF3 al hd h12 s du (cb := c131) (by omega) (fun ln c132 A132 F132 a10 hln h0c132 hc132 hY132 hP132 => ?_) hE6 7 0 _ _ A131 F131 (by omega) (by omega) (by omega) rfl (by omega) (by omega) hY131 hP131
  obtain rfl : du = ln := hdu.trans ((gP_sm hR0 (d := 1) hd).trans hln.symm)
  refine R_s (P := True) (f' := (208, [some (vR 0), some (vR 1), some (vJ al), none, some (vI y), some (vI 1), some (vI s), some (vI (F0 9)), some (vI du), some (vI du), a10], [vI du, vI du], LAY (shA A132) (shF F132), 487, 41141)) hc169 2 rfl trivial ?_
  refine R_ic (t := 213) hc169 rfl rfl (fun (_ : du = du) => ?_) (fun (z : ¬ (du = du)) => absurd (show du = du by omega) z)
  refine R_s (P := True) (f' := (217, [some (vR 0), some (vR 1), some (vJ al), none, some (vI y), some (vI 1), some (vI s), some (vI (F0 9)), some (vI du), some (vI du), a10], [vI 1, vR 1, vJ al], LAY (shA A132) (shF F132), 487, 41141)) hc169 3 rfl trivial ?_
  refine R_cv hc169 rfl rfl (op_yields_1 hY132.1 (by omega)   (by have := hY132.2.2.2.1; omega)) (fun r G9 hp9 => ?_)
  obtain ⟨x133, A133, F133, hR133, rfl, rfl, e133, hE133⟩ := hp9
  have hY133 := YB_P hY132 hR133 e133 hE133.1
  have hP133 := PST_tr hP132 hE133.1
  obtain rfl : s = x133 := hs.trans (hE133.2.trans (N_Y_P hP132 _)).symm
  refine R_s (f' := (220, [some (vR 0), some (vR 1), some (vJ al), none, some (vI y), some (vI 1), some (vI s), some (vI (F0 9)), some (vI du), some (vI du), a10], [vI s, vJ al], LAY (shA A133) (shF F133), 487, 41141)) hc169 0 rfl trivial ?_
  refine R_s (P := inL (al + s) ∧ inI 2 ∧ True) (f' := (20, [some (vR 0), some (vR 1), some (vJ (al + s)), none, some (vI y), some (vI 2), some (vI s), some (vI (F0 9)), some (vI du), some (vI du), a10], [], LAY (shA A133) (shF F133), 487, 41141)) hc169 5 rfl ⟨⟨by omega, by omega⟩, ⟨by omega, by omega⟩, trivial⟩ ?_
  rw [hs]
  exact hk _ A133 F133 _ _ _ _ _ (by omega) (by omega) hY133 hP133

