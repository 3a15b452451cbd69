theorem y_a {sc : List Int} {y : Int} {post : Option AV → AG → Prop} {A0 : Nat → List Int} {F0 : Nat → Int} {c0 : Int} (hR0 : REL c0 A0 F0) (hF0 : F0 0 = 2) (hF3 : 1 ≤ F0 3) (al : Int) (K : Int) (hK : -35000000000000 ≤ K ∧ K ≤ 35000000000000) {cb : Int} (hcb : cb ≤ 100000) (hk : ∀ (t c : Int) (A : Nat → List Int) (F : Nat → Int) (a5 a6 a7 a8 a9 a10 : Option AV), t = K + sm (fun p => rd (A0 84) p) (F0 3).toNat → 0 ≤ c → c ≤ cb + 70 → YB sc y c A F → PST A0 F0 A F → R 169 (366, [some (vR 0), some (vR 1), some (vJ t), none, some (vI y), a5, a6, a7, a8, a9, a10], [], LAY (shA A) (shF F), 487, 41141) post) (hE30 : F0 3 ≤ 30) : ∀ (m : Nat) (i t c : Int) (A : Nat → List Int) (F : Nat → Int) (a6 a7 a8 a9 a10 : Option AV), F0 3 - i < m → 0 ≤ i → i ≤ F0 3 → t = K + sm (fun p => rd (A0 84) p) i.toNat → 0 ≤ c → c ≤ cb + 2 * i → YB sc y c A F → PST A0 F0 A F → R 169 (340, [some (vR 0), some (vR 1), some (vJ t), none, some (vI y), some (vI i), a6, a7, a8, a9, a10], [], LAY (shA A) (shF F), 487, 41141) post := by
  intro m
  induction m with
  | zero =>
    intro i t c A F a6 a7 a8 a9 a10 hm h0 h1 hs h0c hc hY hP
    exact absurd hm (by push_cast; omega)
  | succ m ih =>
    intro i t c A F a6 a7 a8 a9 a10 hm h0 h1 hs h0c hc hY hP
    refine R_s (P := True) (f' := (344, [some (vR 0), some (vR 1), some (vJ t), none, some (vI y), some (vI i), a6, a7, a8, a9, a10], [vI 1, vR 1, vI i], LAY (shA A) (shF F), 487, 41141)) hc169 3 rfl trivial ?_
    refine R_cv hc169 rfl rfl (op_count hY.1 (by omega) (1) ⟨by decide, by decide⟩) (fun r G9 hp9 => ?_)
    obtain ⟨x134, A134, F134, hR134, rfl, rfl, e134, hE134⟩ := hp9
    have hY134 := YB_P hY hR134 e134 hE134.1
    have hP134 := PST_tr hP hE134.1
    obtain rfl : F0 3 = x134 := ((hE134.2 rfl).trans (hP.2 3 rfl)).symm
    refine R_s (f' := (347, [some (vR 0), some (vR 1), some (vJ t), none, some (vI y), some (vI i), a6, a7, a8, a9, a10], [vI (F0 3), vI i], LAY (shA A134) (shF F134), 487, 41141)) hc169 0 rfl trivial ?_
    refine R_ic (t := 366) hc169 rfl rfl (fun (c1 : (F0 3) ≤ i) => ?_) (fun (c1 : ¬ ((F0 3) ≤ i)) => ?_)
    · exact hk t _ A134 F134 _ _ _ _ _ _ (by rw [hs, show i = F0 3 by omega]) (by omega) (by omega) hY134 hP134
    · refine R_s (P := True) (f' := (355, [some (vR 0), some (vR 1), some (vJ t), none, some (vI y), some (vI i), a6, a7, a8, a9, a10], [vI 0, vI i, vR 1, vJ t], LAY (shA A134) (shF F134), 487, 41141)) hc169 4 rfl trivial ?_
      refine R_cv hc169 rfl rfl (op_account hY134.1 (by omega) (i) (0) ⟨by omega, by omega⟩ ⟨by decide, by decide⟩ (.inl rfl)) (fun r G9 hp9 => ?_)
      obtain ⟨x135, A135, F135, hR135, rfl, rfl, e135, hE135⟩ := hp9
      have hY135 := YB_P hY134 hR135 e135 hE135.1
      have hP135 := PST_tr hP134 hE135.1
      obtain rfl : rd (A0 84) (i) = x135 := ((hE135.2.1 rfl (by omega) (by have := hP134.2 3 rfl; omega)).trans (by rw [hP134.1 84 rfl])).symm
      have h330 := F3_30 hR0
      have hb135 := acc_pt hR0 (i := i) (by omega) (by omega)
      have hb2135 := hb135.2.2 (by omega)
      refine R_s (f' := (358, [some (vR 0), some (vR 1), some (vJ t), none, some (vI y), some (vI i), a6, a7, a8, a9, a10], [vJ (rd (A0 84) (i)), vJ t], LAY (shA A135) (shF F135), 487, 41141)) hc169 0 rfl trivial ?_
      refine R_s (P := inL (t + (rd (A0 84) (i))) ∧ inI (i + 1) ∧ True) (f' := (340, [some (vR 0), some (vR 1), some (vJ (t + (rd (A0 84) (i)))), none, some (vI y), some (vI (i + 1)), a6, a7, a8, a9, a10], [], LAY (shA A135) (shF F135), 487, 41141)) hc169 4 rfl ⟨⟨by omega, by omega⟩, ⟨by omega, by omega⟩, trivial⟩ ?_
      exact ih (i + 1) _ _ A135 F135 _ _ _ _ _ (by push_cast at hm; omega) (by omega) (by omega) (by rw [sm_s h0, hs]; (try dsimp only); rw [show ((i.toNat : Nat) : Int) = i by omega, Int.add_assoc]) (by omega) (by omega) hY135 hP135

theorem y_b {sc : List Int} {y : Int} {post : Option AV → AG → Prop} {A0 : Nat → List Int} {F0 : Nat → Int} {c0 : Int} (hR0 : REL c0 A0 F0) (hF0 : F0 0 = 2) (hF3 : 1 ≤ F0 3) (al : Int) (K : Int) (hK : -35000000000000 ≤ K ∧ K ≤ 35000000000000) {cb : Int} (hcb : cb ≤ 100000) (hk : ∀ (t c : Int) (A : Nat → List Int) (F : Nat → Int) (a5 a6 a7 a8 a9 a10 : Option AV), t = K + sm (fun p => rd (A0 85) p) 8 → 0 ≤ c → c ≤ cb + 70 → YB sc y c A F → PST A0 F0 A F → R 169 (392, [some (vR 0), some (vR 1), some (vJ t), none, some (vI y), a5, a6, a7, a8, a9, a10], [], LAY (shA A) (shF F), 487, 41141) post) (hE30 : F0 3 ≤ 30) : ∀ (m : Nat) (i t c : Int) (A : Nat → List Int) (F : Nat → Int) (a6 a7 a8 a9 a10 : Option AV), 8 - i < m → 0 ≤ i → i ≤ 8 → t = K + sm (fun p => rd (A0 85) p) i.toNat → 0 ≤ c → c ≤ cb + 2 * i → YB sc y c A F → PST A0 F0 A F → R 169 (369, [some (vR 0), some (vR 1), some (vJ t), none, some (vI y), some (vI i), a6, a7, a8, a9, a10], [], LAY (shA A) (shF F), 487, 41141) post := by
  intro m
  induction m with
  | zero =>
    intro i t c A F a6 a7 a8 a9 a10 hm h0 h1 hs h0c hc hY hP
    exact absurd hm (by push_cast; omega)
  | succ m ih =>
    intro i t c A F a6 a7 a8 a9 a10 hm h0 h1 hs h0c hc hY hP
    refine R_s (P := True) (f' := (373, [some (vR 0), some (vR 1), some (vJ t), none, some (vI y), some (vI i), a6, a7, a8, a9, a10], [vI 8, vI i], LAY (shA A) (shF F), 487, 41141)) hc169 2 rfl trivial ?_
    refine R_ic (t := 392) hc169 rfl rfl (fun (c1 : 8 ≤ i) => ?_) (fun (c1 : ¬ (8 ≤ i)) => ?_)
    · exact hk t _ A F _ _ _ _ _ _ (by rw [hs, show i = 8 by omega]; rfl) (by omega) (by omega) hY hP
    · refine R_s (P := True) (f' := (381, [some (vR 0), some (vR 1), some (vJ t), none, some (vI y), some (vI i), a6, a7, a8, a9, a10], [vI 1, vI i, vR 1, vJ t], LAY (shA A) (shF F), 487, 41141)) hc169 4 rfl trivial ?_
      refine R_cv hc169 rfl rfl (op_account hY.1 (by omega) (i) (1) ⟨by omega, by omega⟩ ⟨by decide, by decide⟩ (.inr rfl)) (fun r G9 hp9 => ?_)
      obtain ⟨x136, A136, F136, hR136, rfl, rfl, e136, hE136⟩ := hp9
      have hY136 := YB_P hY hR136 e136 hE136.1
      have hP136 := PST_tr hP hE136.1
      obtain rfl : rd (A0 85) (i) = x136 := ((hE136.2.2.1 rfl (by omega) (by omega)).trans (by rw [hP.1 85 rfl])).symm
      have hb136 := acc_pt2 hR0 (i := i) (by omega) (by omega)
      have hb2136 := hb136.2.2 (by omega)
      have hb3136 := acc_pt hR0 (i := F0 3) (by omega) (F3_30 hR0)
      refine R_s (f' := (384, [some (vR 0), some (vR 1), some (vJ t), none, some (vI y), some (vI i), a6, a7, a8, a9, a10], [vJ (rd (A0 85) (i)), vJ t], LAY (shA A136) (shF F136), 487, 41141)) hc169 0 rfl trivial ?_
      refine R_s (P := inL (t + (rd (A0 85) (i))) ∧ inI (i + 1) ∧ True) (f' := (369, [some (vR 0), some (vR 1), some (vJ (t + (rd (A0 85) (i)))), none, some (vI y), some (vI (i + 1)), a6, a7, a8, a9, a10], [], LAY (shA A136) (shF F136), 487, 41141)) hc169 4 rfl ⟨⟨by omega, by omega⟩, ⟨by omega, by omega⟩, trivial⟩ ?_
      exact ih (i + 1) _ _ A136 F136 _ _ _ _ _ (by push_cast at hm; omega) (by omega) (by omega) (by rw [sm_s h0, hs]; (try dsimp only); rw [show ((i.toNat : Nat) : Int) = i by omega, Int.add_assoc]) (by omega) (by omega) hY136 hP136

theorem y_c {sc : List Int} {y : Int} {post : Option AV → AG → Prop} {A0 : Nat → List Int} {F0 : Nat → Int} {c0 : Int} (hR0 : REL c0 A0 F0) (hF0 : F0 0 = 2) (hF3 : 1 ≤ F0 3) (al : Int) (y0 : Int) (K : Int) (hK : -35000000000000 ≤ K ∧ K ≤ 35000000000000) {cb : Int} (hcb : cb ≤ 100000) (hk : ∀ (t c : Int) (A : Nat → List Int) (F : Nat → Int) (a7 a8 a9 a10 : Option AV), t = K + sm (fun p => rd (A0 84) p) (F0 3).toNat → 0 ≤ c → c ≤ cb + 70 → YB sc y c A F → PST A0 F0 A F → R 169 (455, [some (vR 0), some (vR 1), some (vJ al), none, some (vI y0), some (vJ t), none, a7, a8, a9, a10], [], LAY (shA A) (shF F), 487, 41141) post) (hE30 : F0 3 ≤ 30) : ∀ (m : Nat) (i t c : Int) (A : Nat → List Int) (F : Nat → Int) (a8 a9 a10 : Option AV), F0 3 - i < m → 0 ≤ i → i ≤ F0 3 → t = K + sm (fun p => rd (A0 84) p) i.toNat → 0 ≤ c → c ≤ cb + 2 * i → YB sc y c A F → PST A0 F0 A F → R 169 (427, [some (vR 0), some (vR 1), some (vJ al), none, some (vI y0), some (vJ t), none, some (vI i), a8, a9, a10], [], LAY (shA A) (shF F), 487, 41141) post := by
  intro m
  induction m with
  | zero =>
    intro i t c A F a8 a9 a10 hm h0 h1 hs h0c hc hY hP
    exact absurd hm (by push_cast; omega)
  | succ m ih =>
    intro i t c A F a8 a9 a10 hm h0 h1 hs h0c hc hY hP
    refine R_s (P := True) (f' := (431, [some (vR 0), some (vR 1), some (vJ al), none, some (vI y0), some (vJ t), none, some (vI i), a8, a9, a10], [vI 1, vR 1, vI i], LAY (shA A) (shF F), 487, 41141)) hc169 3 rfl trivial ?_
    refine R_cv hc169 rfl rfl (op_count hY.1 (by omega) (1) ⟨by decide, by decide⟩) (fun r G9 hp9 => ?_)
    obtain ⟨x137, A137, F137, hR137, rfl, rfl, e137, hE137⟩ := hp9
    have hY137 := YB_P hY hR137 e137 hE137.1
    have hP137 := PST_tr hP hE137.1
    obtain rfl : F0 3 = x137 := ((hE137.2 rfl).trans (hP.2 3 rfl)).symm
    refine R_s (f' := (434, [some (vR 0), some (vR 1), some (vJ al), none, some (vI y0), some (vJ t), none, some (vI i), a8, a9, a10], [vI (F0 3), vI i], LAY (shA A137) (shF F137), 487, 41141)) hc169 0 rfl trivial ?_
    refine R_ic (t := 455) hc169 rfl rfl (fun (c1 : (F0 3) ≤ i) => ?_) (fun (c1 : ¬ ((F0 3) ≤ i)) => ?_)
    · exact hk t _ A137 F137 _ _ _ _ (by rw [hs, show i = F0 3 by omega]) (by omega) (by omega) hY137 hP137
    · refine R_s (P := True) (f' := (443, [some (vR 0), some (vR 1), some (vJ al), none, some (vI y0), some (vJ t), none, some (vI i), a8, a9, a10], [vI 0, vI i, vR 1, vJ t], LAY (shA A137) (shF F137), 487, 41141)) hc169 4 rfl trivial ?_
      refine R_cv hc169 rfl rfl (op_account hY137.1 (by omega) (i) (0) ⟨by omega, by omega⟩ ⟨by decide, by decide⟩ (.inl rfl)) (fun r G9 hp9 => ?_)
      obtain ⟨x138, A138, F138, hR138, rfl, rfl, e138, hE138⟩ := hp9
      have hY138 := YB_P hY137 hR138 e138 hE138.1
      have hP138 := PST_tr hP137 hE138.1
      obtain rfl : rd (A0 84) (i) = x138 := ((hE138.2.1 rfl (by omega) (by have := hP137.2 3 rfl; omega)).trans (by rw [hP137.1 84 rfl])).symm
      have h330 := F3_30 hR0
      have hb138 := acc_pt hR0 (i := i) (by omega) (by omega)
      have hb2138 := hb138.2.2 (by omega)
      refine R_s (f' := (446, [some (vR 0), some (vR 1), some (vJ al), none, some (vI y0), some (vJ t), none, some (vI i), a8, a9, a10], [vJ (rd (A0 84) (i)), vJ t], LAY (shA A138) (shF F138), 487, 41141)) hc169 0 rfl trivial ?_
      refine R_s (P := inL (t + (rd (A0 84) (i))) ∧ inI (i + 1) ∧ True) (f' := (427, [some (vR 0), some (vR 1), some (vJ al), none, some (vI y0), some (vJ (t + (rd (A0 84) (i)))), none, some (vI (i + 1)), a8, a9, a10], [], LAY (shA A138) (shF F138), 487, 41141)) hc169 4 rfl ⟨⟨by omega, by omega⟩, ⟨by omega, by omega⟩, trivial⟩ ?_
      exact ih (i + 1) _ _ A138 F138 _ _ _ (by push_cast at hm; omega) (by omega) (by omega) (by rw [sm_s h0, hs]; (try dsimp only); rw [show ((i.toNat : Nat) : Int) = i by omega, Int.add_assoc]) (by omega) (by omega) hY138 hP138

theorem y_d {sc : List Int} {y : Int} {post : Option AV → AG → Prop} {A0 : Nat → List Int} {F0 : Nat → Int} {c0 : Int} (hR0 : REL c0 A0 F0) (hF0 : F0 0 = 2) (hF3 : 1 ≤ F0 3) (al : Int) (y0 : Int) (K : Int) (hK : -35000000000000 ≤ K ∧ K ≤ 35000000000000) {cb : Int} (hcb : cb ≤ 100000) (hk : ∀ (t c : Int) (A : Nat → List Int) (F : Nat → Int) (a7 a8 a9 a10 : Option AV), t = K + sm (fun p => rd (A0 85) p) 8 → 0 ≤ c → c ≤ cb + 70 → YB sc y c A F → PST A0 F0 A F → R 169 (483, [some (vR 0), some (vR 1), some (vJ al), none, some (vI y0), some (vJ t), none, a7, a8, a9, a10], [], LAY (shA A) (shF F), 487, 41141) post) (hE30 : F0 3 ≤ 30) : ∀ (m : Nat) (i t c : Int) (A : Nat → List Int) (F : Nat → Int) (a8 a9 a10 : Option AV), 8 - i < m → 0 ≤ i → i ≤ 8 → t = K + sm (fun p => rd (A0 85) p) i.toNat → 0 ≤ c → c ≤ cb + 2 * i → YB sc y c A F → PST A0 F0 A F → R 169 (458, [some (vR 0), some (vR 1), some (vJ al), none, some (vI y0), some (vJ t), none, some (vI i), a8, a9, a10], [], LAY (shA A) (shF F), 487, 41141) post := by
  intro m
  induction m with
  | zero =>
    intro i t c A F a8 a9 a10 hm h0 h1 hs h0c hc hY hP
    exact absurd hm (by push_cast; omega)
  | succ m ih =>
    intro i t c A F a8 a9 a10 hm h0 h1 hs h0c hc hY hP
    refine R_s (P := True) (f' := (462, [some (vR 0), some (vR 1), some (vJ al), none, some (vI y0), some (vJ t), none, some (vI i), a8, a9, a10], [vI 8, vI i], LAY (shA A) (shF F), 487, 41141)) hc169 2 rfl trivial ?_
    refine R_ic (t := 483) hc169 rfl rfl (fun (c1 : 8 ≤ i) => ?_) (fun (c1 : ¬ (8 ≤ i)) => ?_)
    · exact hk t _ A F _ _ _ _ (by rw [hs, show i = 8 by omega]; rfl) (by omega) (by omega) hY hP
    · refine R_s (P := True) (f' := (471, [some (vR 0), some (vR 1), some (vJ al), none, some (vI y0), some (vJ t), none, some (vI i), a8, a9, a10], [vI 1, vI i, vR 1, vJ t], LAY (shA A) (shF F), 487, 41141)) hc169 4 rfl trivial ?_
      refine R_cv hc169 rfl rfl (op_account hY.1 (by omega) (i) (1) ⟨by omega, by omega⟩ ⟨by decide, by decide⟩ (.inr rfl)) (fun r G9 hp9 => ?_)
      obtain ⟨x139, A139, F139, hR139, rfl, rfl, e139, hE139⟩ := hp9
      have hY139 := YB_P hY hR139 e139 hE139.1
      have hP139 := PST_tr hP hE139.1
      obtain rfl : rd (A0 85) (i) = x139 := ((hE139.2.2.1 rfl (by omega) (by omega)).trans (by rw [hP.1 85 rfl])).symm
      have hb139 := acc_pt2 hR0 (i := i) (by omega) (by omega)
      have hb2139 := hb139.2.2 (by omega)
      have hb3139 := acc_pt hR0 (i := F0 3) (by omega) (F3_30 hR0)
      refine R_s (f' := (474, [some (vR 0), some (vR 1), some (vJ al), none, some (vI y0), some (vJ t), none, some (vI i), a8, a9, a10], [vJ (rd (A0 85) (i)), vJ t], LAY (shA A139) (shF F139), 487, 41141)) hc169 0 rfl trivial ?_
      refine R_s (P := inL (t + (rd (A0 85) (i))) ∧ inI (i + 1) ∧ True) (f' := (458, [some (vR 0), some (vR 1), some (vJ al), none, some (vI y0), some (vJ (t + (rd (A0 85) (i)))), none, some (vI (i + 1)), a8, a9, a10], [], LAY (shA A139) (shF F139), 487, 41141)) hc169 4 rfl ⟨⟨by omega, by omega⟩, ⟨by omega, by omega⟩, trivial⟩ ?_
      exact ih (i + 1) _ _ A139 F139 _ _ _ (by push_cast at hm; omega) (by omega) (by omega) (by rw [sm_s h0, hs]; (try dsimp only); rw [show ((i.toNat : Nat) : Int) = i by omega, Int.add_assoc]) (by omega) (by omega) hY139 hP139

theorem y_r {sc : List Int} {y : Int} {post : Option AV → AG → Prop} {A0 : Nat → List Int} {F0 : Nat → Int} {c0 : Int} (hR0 : REL c0 A0 F0) (hF0 : F0 0 = 2) (hF3 : 1 ≤ F0 3) (al : Int) {cb : Int} (hcb : cb ≤ 90000) (hk : ∀ (c : Int) (A : Nat → List Int) (F : Nat → Int) (a5 a6 a7 a8 a9 a10 : Option AV), 0 ≤ c → c ≤ cb + 200 → YB sc y c A F → PST A0 F0 A F → R 169 (407, [some (vR 0), some (vR 1), some (vJ (TOT A0 F0 + (N_Y A0 F0 0 + N_Y A0 F0 1))), none, some (vI y), a5, a6, a7, a8, a9, a10], [], LAY (shA A) (shF F), 487, 41141) post) (c : Int) (A : Nat → List Int) (F : Nat → Int) (a5 a6 a7 a8 a9 a10 : Option AV) (h0c : 0 ≤ c) (hc : c ≤ cb) (hY : YB sc y c A F) (hP : PST A0 F0 A F) : R 169 (335, [some (vR 0), some (vR 1), some (vJ al), none, some (vI y), a5, a6, a7, a8, a9, a10], [], LAY (shA A) (shF F), 487, 41141) post := by
  refine R_s (P := True) (f' := (340, [some (vR 0), some (vR 1), some (vJ 0), none, some (vI y), some (vI 0), a6, a7, a8, a9, a10], [], LAY (shA A) (shF F), 487, 41141)) hc169 4 rfl trivial ?_
  refine y_a (sc := sc) (y := y) hR0 hF0 hF3 al 0 (by omega) (cb := c) (by omega) (fun t c140 A140 F140 a5 a6 a7 a8 a9 a10 ht h0c140 hc140 hY140 hP140 => ?_) (F3_30 hR0) 31 0 _ _ A F _ _ _ _ _ (by have := F3_30 hR0; omega) (by omega) (by omega) rfl (by omega) (by omega) hY hP
  refine R_s (P := True) (f' := (369, [some (vR 0), some (vR 1), some (vJ t), none, some (vI y), some (vI 0), a6, a7, a8, a9, a10], [], LAY (shA A140) (shF F140), 487, 41141)) hc169 2 rfl trivial ?_
  have hbt := acc_pt hR0 (i := F0 3) (by omega) (F3_30 hR0)
  refine y_b (sc := sc) (y := y) hR0 hF0 hF3 al t (by omega) (cb := c140) (by omega) (fun t2 c141 A141 F141 a5 a6 a7 a8 a9 a10 ht2 h0c141 hc141 hY141 hP141 => ?_) (F3_30 hR0) 9 0 _ _ A140 F140 _ _ _ _ _ (by omega) (by omega) (by omega) (by show t = t + 0; omega) (by omega) (by omega) hY140 hP140
  have htt : t2 = TOT A0 F0 := by
    rw [ht2, ht]
    unfold TOT
    omega
  have htb := TOT_bd hR0 hF3
  refine R_s (P := True) (f' := (395, [some (vR 0), some (vR 1), some (vJ t2), none, some (vI y), a5, a6, a7, a8, a9, a10], [vI 0, vR 1, vJ t2], LAY (shA A141) (shF F141), 487, 41141)) hc169 3 rfl trivial ?_
  refine R_cv hc169 rfl rfl (op_yields_0 hY141.1 (by omega)   (by have := hY141.2.2.2.1; omega)) (fun r G9 hp9 => ?_)
  obtain ⟨x142, A142, F142, hR142, rfl, rfl, e142, hE142⟩ := hp9
  have hY142 := YB_P hY141 hR142 e142 hE142.1
  have hP142 := PST_tr hP141 hE142.1
  have hX142 : x142 = N_Y A0 F0 0 := hE142.2.trans (N_Y_P hP141 _)
  have hb142 := N_Y_bd hR0 (d := 0) ⟨by omega, by omega⟩
  refine R_s (f' := (398, [some (vR 0), some (vR 1), some (vJ t2), none, some (vI y), a5, a6, a7, a8, a9, a10], [vI x142, vJ t2], LAY (shA A142) (shF F142), 487, 41141)) hc169 0 rfl trivial ?_
  refine R_s (P := True) (f' := (400, [some (vR 0), some (vR 1), some (vJ t2), none, some (vI y), a5, a6, a7, a8, a9, a10], [vI 1, vR 1, vI x142, vJ t2], LAY (shA A142) (shF F142), 487, 41141)) hc169 2 rfl trivial ?_
  refine R_cv hc169 rfl rfl (op_yields_1 hY142.1 (by omega)   (by have := hY142.2.2.2.1; omega)) (fun r G9 hp9 => ?_)
  obtain ⟨x143, A143, F143, hR143, rfl, rfl, e143, hE143⟩ := hp9
  have hY143 := YB_P hY142 hR143 e143 hE143.1
  have hP143 := PST_tr hP142 hE143.1
  have hX143 : x143 = N_Y A0 F0 1 := hE143.2.trans (N_Y_P hP142 _)
  have hb143 := N_Y_bd hR0 (d := 1) ⟨by omega, by omega⟩
  refine R_s (f' := (403, [some (vR 0), some (vR 1), some (vJ t2), none, some (vI y), a5, a6, a7, a8, a9, a10], [vI x143, vI x142, vJ t2], LAY (shA A143) (shF F143), 487, 41141)) hc169 0 rfl trivial ?_
  refine R_s (P := inI (x142 + x143) ∧ inL (t2 + (x142 + x143)) ∧ True) (f' := (407, [some (vR 0), some (vR 1), some (vJ (t2 + (x142 + x143))), none, some (vI y), a5, a6, a7, a8, a9, a10], [], LAY (shA A143) (shF F143), 487, 41141)) hc169 4 rfl ⟨⟨by omega, by omega⟩, ⟨by omega, by omega⟩, trivial⟩ ?_
  rw [show t2 + (x142 + x143) = TOT A0 F0 + (N_Y A0 F0 0 + N_Y A0 F0 1) by omega]
  exact hk _ A143 F143 _ _ _ _ _ _ (by omega) (by omega) hY143 hP143

section
variable {sc : List Int} {y c : Int} {A A' A0 A1 : Nat → List Int} {F F' F0 F1 : Nat → Int}
theorem TOT_P (h : PST A0 F0 A F) : TOT A F = TOT A0 F0 := by
  unfold TOT
  rw [h.1 84 rfl, h.1 85 rfl, h.2 3 rfl]
theorem TOT_run (hR : REL c A F) (hF : F 0 = 2) (h3 : F1 3 = F 3) (hp : ∀ p : Nat, p < 30 → rd (A1 84) p = aP A F 1 p) (hh : ∀ h : Nat, h < 8 → rd (A1 85) h = aH A F 1 h) : TOT A1 F1 = TOT A F + (N_Y A F 0 + N_Y A F 1) := by
  have h30 := R_n30 hR
  have z := tot_run hR hF
  unfold TOT
  rw [h3, sm_congr (g' := fun p : Nat => aP A F 1 p) (F 3).toNat (fun p hq => hp p (by omega)), sm_congr (g' := fun h : Nat => aH A F 1 h) 8 (fun h hq => hh h hq), z]
theorem YB_run (h : YB sc y c A F) (hR : REL (c + 1) A1 F1) (e : A1 0 = A 0) (h2 : F1 2 = F 2 + 1) (f0 : F1 0 = F 0) (f3 : F1 3 = F 3) (q21 : A1 21 = A 21) (q22 : A1 22 = A 22) (q30 : A1 30 = A 30) (q31 : A1 31 = A 31) (q8 : F1 8 = F 8) (q9 : F1 9 = F 9) : YB sc (y + 1) (c + 1) A1 F1 := by
  have hL : BL A F A1 F1 := ⟨q21, q22, q30, q31, q8, q9⟩
  exact ⟨hR, e.trans h.2.1, by rw [h2, h.2.2.1], f0.trans h.2.2.2.1, by rw [f3]; exact h.2.2.2.2.1, S0_L hL h.2.2.2.2.2.1, S1_L hL h.2.2.2.2.2.2⟩
end
theorem y_h {sc : List Int} {y : Int} {post : Option AV → AG → Prop} {A0 : Nat → List Int} {F0 : Nat → Int} (h0y : 0 ≤ y) (h5y : y ≤ 5) (al : Int) (hal : al = TOT A0 F0 + (N_Y A0 F0 0 + N_Y A0 F0 1)) {cb : Int} (hcb : cb ≤ 90000) (hk : ∀ (c : Int) (A : Nat → List Int) (F : Nat → Int) (a5 a6 a7 a8 a9 a10 : Option AV), 0 ≤ c → c ≤ cb + 200 → YB sc (y + 1) c A F → al = TOT A F → R 169 (10, [some (vR 0), some (vR 1), some (vJ al), none, some (vI (y + 1)), a5, a6, a7, a8, a9, a10], [], LAY (shA A) (shF F), 487, 41141) post) (c : Int) (A : Nat → List Int) (F : Nat → Int) (a5 a6 a7 a8 a9 a10 : Option AV) (h0c : 0 ≤ c) (hc : c ≤ cb) (hY : YB sc y c A F) (hP : PST A0 F0 A F) : R 169 (407, [some (vR 0), some (vR 1), some (vJ al), none, some (vI y), a5, a6, a7, a8, a9, a10], [], LAY (shA A) (shF F), 487, 41141) post := by
  refine R_s (P := True) (f' := (409, [some (vR 0), some (vR 1), some (vJ al), none, some (vI y), a5, a6, a7, a8, a9, a10], [vI 1, vR 1], LAY (shA A) (shF F), 487, 41141)) hc169 2 rfl trivial ?_
  refine R_cv hc169 rfl rfl (op_run hY.1 (by omega) 1 ⟨by decide, by decide⟩ (by have := hY.2.2.2.1; omega)) (fun r G9 hp9 => ?_)
  obtain ⟨x144, A1, F1, hR144, rfl, rfl, e144, hE144⟩ := hp9
  obtain ⟨hx1, g2, g0, g3, q21, q22, q30, q31, q8, q9, hpp, hhh⟩ := hE144.1 rfl (by have := hY.2.2.1; omega)
  have hY1 := YB_run hY hR144 e144 g2 g0 g3 q21 q22 q30 q31 q8 q9
  have hT1 : TOT A1 F1 = al := by
    rw [TOT_run hY.1 hY.2.2.2.1 g3 hpp hhh, TOT_P hP, N_Y_P hP, N_Y_P hP]
    exact hal.symm
  obtain rfl : y + 1 = x144 := by
    have := hY.2.2.1
    omega
  have hP1 : PST A1 F1 A1 F1 := PST_0
  have hTb := TOT_bd hR144 hY1.2.2.2.2.1
  refine R_s (f' := (412, [some (vR 0), some (vR 1), some (vJ al), none, some (vI y), a5, a6, a7, a8, a9, a10], [vI (y + 1)], LAY (shA A1) (shF F1), 487, 41141)) hc169 0 rfl trivial ?_
  refine R_s (P := inI (y + 1) ∧ True) (f' := (416, [some (vR 0), some (vR 1), some (vJ al), none, some (vI y), a5, a6, a7, a8, a9, a10], [vI (y + 1), vI (y + 1)], LAY (shA A1) (shF F1), 487, 41141)) hc169 3 rfl ⟨⟨by omega, by omega⟩, trivial⟩ ?_
  refine R_ic (t := 421) hc169 rfl rfl (fun (_ : y + 1 = y + 1) => ?_) (fun (z : ¬ (y + 1 = y + 1)) => absurd (show y + 1 = y + 1 by omega) z)
  refine R_s (P := True) (f' := (427, [some (vR 0), some (vR 1), some (vJ al), none, some (vI y), some (vJ 0), none, some (vI 0), a8, a9, a10], [], LAY (shA A1) (shF F1), 487, 41141)) hc169 4 rfl trivial ?_
  refine y_c (sc := sc) (y := y + 1) hR144 hY1.2.2.2.1 hY1.2.2.2.2.1 al y 0 (by omega) (cb := c + 1) (by omega) (fun t c145 A145 F145 a7 a8 a9 a10 ht h0c145 hc145 hY145 hP145 => ?_) (F3_30 hR144) 31 0 _ _ A1 F1 _ _ _ (by have := F3_30 hR144; omega) (by omega) (by have := hY1.2.2.2.2.1; omega) rfl (by omega) (by omega) hY1 hP1
  refine R_s (P := True) (f' := (458, [some (vR 0), some (vR 1), some (vJ al), none, some (vI y), some (vJ t), none, some (vI 0), a8, a9, a10], [], LAY (shA A145) (shF F145), 487, 41141)) hc169 2 rfl trivial ?_
  have h13 := hY1.2.2.2.2.1
  have hbt := acc_pt hR144 (i := F1 3) (by omega) (F3_30 hR144)
  refine y_d (sc := sc) (y := y + 1) hR144 hY1.2.2.2.1 hY1.2.2.2.2.1 al y t (by omega) (cb := c145) (by omega) (fun t2 c146 A146 F146 a7 a8 a9 a10 ht2 h0c146 hc146 hY146 hP146 => ?_) (F3_30 hR144) 9 0 _ _ A145 F145 _ _ _ (by omega) (by omega) (by omega) (by show t = t + 0; omega) (by omega) (by omega) hY145 hP145
  have htt : t2 = TOT A1 F1 := by
    rw [ht2, ht]
    unfold TOT
    omega
  refine R_s (P := True) (f' := (487, [some (vR 0), some (vR 1), some (vJ al), none, some (vI y), some (vJ t2), none, a7, a8, a9, a10], [vI (if al < t2 then 1 else if t2 = al then 0 else -1)], LAY (shA A146) (shF F146), 487, 41141)) hc169 3 rfl trivial ?_
  refine R_if (t := 492) hc169 rfl rfl (fun (c2 : (if al < t2 then 1 else if t2 = al then 0 else -1) = 0) => ?_) (fun (c2 : ¬ ((if al < t2 then 1 else if t2 = al then 0 else -1) = 0)) => ?_)
  · rw [lcm_eq] at c2
    refine R_s (P := inI (y + 1) ∧ True) (f' := (10, [some (vR 0), some (vR 1), some (vJ al), none, some (vI (y + 1)), some (vJ t2), none, a7, a8, a9, a10], [], LAY (shA A146) (shF F146), 487, 41141)) hc169 2 rfl ⟨⟨by omega, by omega⟩, trivial⟩ ?_
    exact hk _ A146 F146 _ _ _ _ _ _ (by omega) (by omega) hY146 (by rw [TOT_P hP146]; exact hT1.symm)
  · rw [lcm_eq] at c2
    exfalso
    omega

theorem y_year {sc : List Int} {y : Int} {post : Option AV → AG → Prop} (hlen : sc.length ≤ 260) (hsc : ∀ z ∈ sc, inI z) (h0y : 0 ≤ y) (h5y : y ≤ 5) (al : Int) {cb : Int} (hcb : cb ≤ 80000) (hk : ∀ (a c : Int) (A : Nat → List Int) (F : Nat → Int) (a5 a6 a7 a8 a9 a10 : Option AV), 0 ≤ c → c ≤ cb + 1000 → YB sc (y + 1) c A F → a = TOT A F → R 169 (10, [some (vR 0), some (vR 1), some (vJ a), none, some (vI (y + 1)), a5, a6, a7, a8, a9, a10], [], LAY (shA A) (shF F), 487, 41141) post) (c : Int) (A0 : Nat → List Int) (F0 : Nat → Int) (a5 a6 a7 a8 a9 a10 : Option AV) (h0c : 0 ≤ c) (hc : c ≤ cb) (hY0 : YB sc y c A0 F0) (hal : al = TOT A0 F0) : R 169 (10, [some (vR 0), some (vR 1), some (vJ al), none, some (vI y), a5, a6, a7, a8, a9, a10], [], LAY (shA A0) (shF F0), 487, 41141) post := by
  obtain ⟨hR0, hA0, hF2, hF0, hF3, hS0, hS1⟩ := hY0
  have hY0 : YB sc y c A0 F0 := ⟨hR0, hA0, hF2, hF0, hF3, hS0, hS1⟩
  have hP0 : PST A0 F0 A0 F0 := PST_0
  have h12_0 : s12 (N_Q A0 (21 + 9 * 0)) (F0 (0 + 8)).toNat ≤ 12 := hS0
  have h12_1 : s12 (N_Q A0 (21 + 9 * 1)) (F0 (1 + 8)).toNat ≤ 12 := hS1
  have h30 := F3_30 hR0
  have htb := TOT_bd hR0 hF3
  have hn0 := N_Y_bd hR0 (d := 0) ⟨by omega, by omega⟩
  have hn1 := N_Y_bd hR0 (d := 1) ⟨by omega, by omega⟩
  refine R_s (P := True) (f' := (14, [some (vR 0), some (vR 1), some (vJ al), none, some (vI y), a5, a6, a7, a8, a9, a10], [vI 6, vI y], LAY (shA A0) (shF F0), 487, 41141)) hc169 2 rfl trivial ?_
  refine R_ic (t := 498) hc169 rfl rfl (fun (z : 6 ≤ y) => absurd z (by omega)) (fun (_ : ¬ (6 ≤ y)) => ?_)
  refine R_s (P := True) (f' := (20, [some (vR 0), some (vR 1), some (vJ al), none, some (vI y), some (vI 0), a6, a7, a8, a9, a10], [], LAY (shA A0) (shF F0), 487, 41141)) hc169 2 rfl trivial ?_
  refine y0 (sc := sc) (y := y) hR0 hF0 hF3 (al) (by omega) (by omega) h12_0 (cb := c) (by omega) (fun c147 A147 F147 a6 a7 a8 a9 a10 h0c147 hc147 hY147 hP147 => ?_) _ A0 F0 _ _ _ _ _ (by omega) (by omega) hY0 hP0
  refine R_s (f' := (20, [some (vR 0), some (vR 1), some (vJ (al + N_Y A0 F0 0)), none, some (vI y), some (vI 1), a6, a7, a8, a9, a10], [], LAY (shA A147) (shF F147), 487, 41141)) hc169 0 rfl trivial ?_
  refine y1 (sc := sc) (y := y) hR0 hF0 hF3 (al + N_Y A0 F0 0) (by omega) (by omega) h12_1 (cb := c147) (by omega) (fun c148 A148 F148 a6 a7 a8 a9 a10 h0c148 hc148 hY148 hP148 => ?_) _ A147 F147 _ _ _ _ _ (by omega) (by omega) hY147 hP147
  refine R_s (f' := (20, [some (vR 0), some (vR 1), some (vJ ((al + N_Y A0 F0 0) + N_Y A0 F0 1)), none, some (vI y), some (vI 2), a6, a7, a8, a9, a10], [], LAY (shA A148) (shF F148), 487, 41141)) hc169 0 rfl trivial ?_
  refine R_s (P := True) (f' := (23, [some (vR 0), some (vR 1), some (vJ ((al + N_Y A0 F0 0) + N_Y A0 F0 1)), none, some (vI y), some (vI 2), a6, a7, a8, a9, a10], [vI 2, vI 2], LAY (shA A148) (shF F148), 487, 41141)) hc169 2 rfl trivial ?_
  refine R_ic (t := 229) hc169 rfl rfl (fun (_ : 2 ≤ 2) => ?_) (fun (z : ¬ (2 ≤ 2)) => absurd (by decide) z)
  refine R_s (P := inI (16 + y) ∧ True) (f' := (235, [some (vR 0), some (vR 1), some (vJ ((al + N_Y A0 F0 0) + N_Y A0 F0 1)), none, some (vI y), some (vI 2), a6, a7, a8, a9, a10], [vI (16 + y), vR 0], LAY (shA A148) (shF F148), 487, 41141)) hc169 4 rfl ⟨⟨by omega, by omega⟩, trivial⟩ ?_
  refine R_cs hc169 rfl rfl (at_ok2 hY148.2.1 hlen hsc (16 + y) (by omega)) (fun r G9 hp9 => ?_)
  obtain ⟨rfl, rfl⟩ := hp9
  refine R_s (f' := (238, [some (vR 0), some (vR 1), some (vJ ((al + N_Y A0 F0 0) + N_Y A0 F0 1)), none, some (vI y), some (vI 2), a6, a7, a8, a9, a10], [vI (atv sc (16 + y))], LAY (shA A148) (shF F148), 487, 41141)) hc169 0 rfl trivial ?_
  refine R_s (P := True) (f' := (239, [some (vR 0), some (vR 1), some (vJ ((al + N_Y A0 F0 0) + N_Y A0 F0 1)), none, some (vI y), some (vI 2), a6, a7, a8, a9, a10], [vI 3, vI (atv sc (16 + y))], LAY (shA A148) (shF F148), 487, 41141)) hc169 1 rfl trivial ?_
  refine R_s (P := True) (f' := (240, [some (vR 0), some (vR 1), some (vJ ((al + N_Y A0 F0 0) + N_Y A0 F0 1)), none, some (vI y), some (vI 2), a6, a7, a8, a9, a10], [vI (bnd (atv sc (16 + y)) 3)], LAY (shA A148) (shF F148), 487, 41141)) hc169 1 rfl trivial ?_
  obtain ⟨z149, hz149, hz149a, hz149b⟩ := bnd_ex (atv sc (16 + y)) (3) ⟨by decide, by decide⟩
  rw [hz149]
  refine R_if (t := 269) hc169 rfl rfl (fun (c3 : ¬ z149 = 0) => ?_) (fun (c3 : ¬ (¬ z149 = 0)) => ?_)
  · refine R_s (P := inI (16 + y) ∧ True) (f' := (275, [some (vR 0), some (vR 1), some (vJ ((al + N_Y A0 F0 0) + N_Y A0 F0 1)), none, some (vI y), some (vI 2), a6, a7, a8, a9, a10], [vI (16 + y), vR 0], LAY (shA A148) (shF F148), 487, 41141)) hc169 4 rfl ⟨⟨by omega, by omega⟩, trivial⟩ ?_
    refine R_cs hc169 rfl rfl (at_ok2 hY148.2.1 hlen hsc (16 + y) (by omega)) (fun r G9 hp9 => ?_)
    obtain ⟨rfl, rfl⟩ := hp9
    refine R_s (f' := (278, [some (vR 0), some (vR 1), some (vJ ((al + N_Y A0 F0 0) + N_Y A0 F0 1)), none, some (vI y), some (vI 2), a6, a7, a8, a9, a10], [vI (atv sc (16 + y))], LAY (shA A148) (shF F148), 487, 41141)) hc169 0 rfl trivial ?_
    refine R_s (P := True) (f' := (279, [some (vR 0), some (vR 1), some (vJ ((al + N_Y A0 F0 0) + N_Y A0 F0 1)), none, some (vI y), some (vI 2), a6, a7, a8, a9, a10], [vI 3, vI (atv sc (16 + y))], LAY (shA A148) (shF F148), 487, 41141)) hc169 1 rfl trivial ?_
    refine R_s (P := True) (f' := (280, [some (vR 0), some (vR 1), some (vJ ((al + N_Y A0 F0 0) + N_Y A0 F0 1)), none, some (vI y), some (vI 2), a6, a7, a8, a9, a10], [vI (bnd (atv sc (16 + y)) 3)], LAY (shA A148) (shF F148), 487, 41141)) hc169 1 rfl trivial ?_
    rw [hz149]
    refine R_s (P := True) (f' := (281, [some (vR 0), some (vR 1), some (vJ ((al + N_Y A0 F0 0) + N_Y A0 F0 1)), none, some (vI y), some (vI 2), a6, a7, a8, a9, a10], [vI 1, vI z149], LAY (shA A148) (shF F148), 487, 41141)) hc169 1 rfl trivial ?_
    refine R_ic (t := 320) hc169 rfl rfl (fun (c4 : ¬ z149 = 1) => ?_) (fun (c4 : ¬ (¬ z149 = 1)) => ?_)
    · refine R_s (P := inI (16 + y) ∧ True) (f' := (326, [some (vR 0), some (vR 1), some (vJ ((al + N_Y A0 F0 0) + N_Y A0 F0 1)), none, some (vI y), some (vI 2), a6, a7, a8, a9, a10], [vI (16 + y), vR 0], LAY (shA A148) (shF F148), 487, 41141)) hc169 4 rfl ⟨⟨by omega, by omega⟩, trivial⟩ ?_
      refine R_cs hc169 rfl rfl (at_ok2 hY148.2.1 hlen hsc (16 + y) (by omega)) (fun r G9 hp9 => ?_)
      obtain ⟨rfl, rfl⟩ := hp9
      refine R_s (f' := (329, [some (vR 0), some (vR 1), some (vJ ((al + N_Y A0 F0 0) + N_Y A0 F0 1)), none, some (vI y), some (vI 2), a6, a7, a8, a9, a10], [vI (atv sc (16 + y))], LAY (shA A148) (shF F148), 487, 41141)) hc169 0 rfl trivial ?_
      refine R_s (P := True) (f' := (330, [some (vR 0), some (vR 1), some (vJ ((al + N_Y A0 F0 0) + N_Y A0 F0 1)), none, some (vI y), some (vI 2), a6, a7, a8, a9, a10], [vI 3, vI (atv sc (16 + y))], LAY (shA A148) (shF F148), 487, 41141)) hc169 1 rfl trivial ?_
      refine R_s (P := True) (f' := (331, [some (vR 0), some (vR 1), some (vJ ((al + N_Y A0 F0 0) + N_Y A0 F0 1)), none, some (vI y), some (vI 2), a6, a7, a8, a9, a10], [vI (bnd (atv sc (16 + y)) 3)], LAY (shA A148) (shF F148), 487, 41141)) hc169 1 rfl trivial ?_
      rw [hz149]
      refine R_s (P := True) (f' := (332, [some (vR 0), some (vR 1), some (vJ ((al + N_Y A0 F0 0) + N_Y A0 F0 1)), none, some (vI y), some (vI 2), a6, a7, a8, a9, a10], [vI 2, vI z149], LAY (shA A148) (shF F148), 487, 41141)) hc169 1 rfl trivial ?_
      refine R_ic (t := 407) hc169 rfl rfl (fun (_ : 2 ≤ z149) => ?_) (fun (z : ¬ (2 ≤ z149)) => absurd (show 2 ≤ z149 by omega) z)
      exact y_h (A0 := A0) (F0 := F0) h0y h5y _ (by rw [hal]; omega) (cb := c148) (by omega) (fun c A F a5 a6 a7 a8 a9 a10 k0 k1 k2 k4 => hk _ c A F _ _ _ _ _ _ k0 (by omega) k2 k4) _ A148 F148 _ _ _ _ _ _ (by omega) (by omega) hY148 hP148
    · refine R_s (P := inI (16 + y) ∧ True) (f' := (291, [some (vR 0), some (vR 1), some (vJ ((al + N_Y A0 F0 0) + N_Y A0 F0 1)), none, some (vI y), some (vI 2), a6, a7, a8, a9, a10], [vI (16 + y), vR 0, vR 1], LAY (shA A148) (shF F148), 487, 41141)) hc169 5 rfl ⟨⟨by omega, by omega⟩, trivial⟩ ?_
      refine R_cs hc169 rfl rfl (at_ok2 hY148.2.1 hlen hsc (16 + y) (by omega)) (fun r G9 hp9 => ?_)
      obtain ⟨rfl, rfl⟩ := hp9
      refine R_s (f' := (294, [some (vR 0), some (vR 1), some (vJ ((al + N_Y A0 F0 0) + N_Y A0 F0 1)), none, some (vI y), some (vI 2), a6, a7, a8, a9, a10], [vI (atv sc (16 + y)), vR 1], LAY (shA A148) (shF F148), 487, 41141)) hc169 0 rfl trivial ?_
      refine R_s (P := (0 ≤ 2 ∧ 2 < 32) ∧ True) (f' := (297, [some (vR 0), some (vR 1), some (vJ ((al + N_Y A0 F0 0) + N_Y A0 F0 1)), none, some (vI y), some (vI 2), a6, a7, a8, a9, a10], [vI 3, vI ((atv sc (16 + y)) / 2 ^ (2 : Int).toNat), vR 1], LAY (shA A148) (shF F148), 487, 41141)) hc169 3 rfl ⟨⟨by omega, by omega⟩, trivial⟩ ?_
      refine R_s (P := True) (f' := (298, [some (vR 0), some (vR 1), some (vJ ((al + N_Y A0 F0 0) + N_Y A0 F0 1)), none, some (vI y), some (vI 2), a6, a7, a8, a9, a10], [vI (bnd ((atv sc (16 + y)) / 2 ^ (2 : Int).toNat) 3), vR 1], LAY (shA A148) (shF F148), 487, 41141)) hc169 1 rfl trivial ?_
      obtain ⟨z152, hz152, hz152a, hz152b⟩ := bnd_ex ((atv sc (16 + y)) / 2 ^ (2 : Int).toNat) (3) ⟨by decide, by decide⟩
      rw [hz152]
      refine R_s (P := True) (f' := (299, [some (vR 0), some (vR 1), some (vJ ((al + N_Y A0 F0 0) + N_Y A0 F0 1)), none, some (vI y), some (vI 2), a6, a7, a8, a9, a10], [vI 3, vI z152, vR 1], LAY (shA A148) (shF F148), 487, 41141)) hc169 1 rfl trivial ?_
      refine R_s (P := (0 ≤ z152 ∧ 0 < 3) ∧ True) (f' := (300, [some (vR 0), some (vR 1), some (vJ ((al + N_Y A0 F0 0) + N_Y A0 F0 1)), none, some (vI y), some (vI 2), a6, a7, a8, a9, a10], [vI (z152 % 3), vR 1], LAY (shA A148) (shF F148), 487, 41141)) hc169 1 rfl ⟨⟨by omega, by omega⟩, trivial⟩ ?_
      obtain ⟨z153, hz153, hz153a, hz153b⟩ := mod_ex (z152) (3) (by omega)
      rw [hz153]
      refine R_s (P := inI (16 + y) ∧ True) (f' := (307, [some (vR 0), some (vR 1), some (vJ ((al + N_Y A0 F0 0) + N_Y A0 F0 1)), none, some (vI y), some (vI 2), a6, a7, a8, a9, a10], [vI (16 + y), vR 0, vI 1, vI z153, vR 1], LAY (shA A148) (shF F148), 487, 41141)) hc169 5 rfl ⟨⟨by omega, by omega⟩, trivial⟩ ?_
      refine R_cs hc169 rfl rfl (at_ok2 hY148.2.1 hlen hsc (16 + y) (by omega)) (fun r G9 hp9 => ?_)
      obtain ⟨rfl, rfl⟩ := hp9
      refine R_s (f' := (310, [some (vR 0), some (vR 1), some (vJ ((al + N_Y A0 F0 0) + N_Y A0 F0 1)), none, some (vI y), some (vI 2), a6, a7, a8, a9, a10], [vI (atv sc (16 + y)), vI 1, vI z153, vR 1], LAY (shA A148) (shF F148), 487, 41141)) hc169 0 rfl trivial ?_
      refine R_s (P := (0 ≤ 4 ∧ 4 < 32) ∧ True) (f' := (315, [some (vR 0), some (vR 1), some (vJ ((al + N_Y A0 F0 0) + N_Y A0 F0 1)), none, some (vI y), some (vI 2), a6, a7, a8, a9, a10], [vI 1023, vI ((atv sc (16 + y)) / 2 ^ (4 : Int).toNat), vI 1, vI z153, vR 1], LAY (shA A148) (shF F148), 487, 41141)) hc169 3 rfl ⟨⟨by omega, by omega⟩, trivial⟩ ?_
      refine R_s (P := True) (f' := (316, [some (vR 0), some (vR 1), some (vJ ((al + N_Y A0 F0 0) + N_Y A0 F0 1)), none, some (vI y), some (vI 2), a6, a7, a8, a9, a10], [vI (bnd ((atv sc (16 + y)) / 2 ^ (4 : Int).toNat) 1023), vI 1, vI z153, vR 1], LAY (shA A148) (shF F148), 487, 41141)) hc169 1 rfl trivial ?_
      obtain ⟨z154, hz154, hz154a, hz154b⟩ := bnd_ex ((atv sc (16 + y)) / 2 ^ (4 : Int).toNat) (1023) ⟨by decide, by decide⟩
      rw [hz154]
      refine R_cv hc169 rfl rfl (op_tell hY148.1 (by omega) (z153) (1) (z154) ⟨by omega, by omega⟩ ⟨by decide, by decide⟩ ⟨by omega, by omega⟩) (fun r G9 hp9 => ?_)
      obtain ⟨x155, A155, F155, hR155, rfl, rfl, e155, hE155⟩ := hp9
      have hY155 := YB_K hY148 hR155 e155 hE155
      refine R_s (f' := (319, [some (vR 0), some (vR 1), some (vJ ((al + N_Y A0 F0 0) + N_Y A0 F0 1)), none, some (vI y), some (vI 2), a6, a7, a8, a9, a10], [vI x155], LAY (shA A155) (shF F155), 487, 41141)) hc169 0 rfl trivial ?_
      refine R_s (P := inI (16 + y) ∧ True) (f' := (326, [some (vR 0), some (vR 1), some (vJ ((al + N_Y A0 F0 0) + N_Y A0 F0 1)), none, some (vI y), some (vI 2), a6, a7, a8, a9, a10], [vI (16 + y), vR 0], LAY (shA A155) (shF F155), 487, 41141)) hc169 5 rfl ⟨⟨by omega, by omega⟩, trivial⟩ ?_
      refine R_cs hc169 rfl rfl (at_ok2 hY155.2.1 hlen hsc (16 + y) (by omega)) (fun r G9 hp9 => ?_)
      obtain ⟨rfl, rfl⟩ := hp9
      refine R_s (f' := (329, [some (vR 0), some (vR 1), some (vJ ((al + N_Y A0 F0 0) + N_Y A0 F0 1)), none, some (vI y), some (vI 2), a6, a7, a8, a9, a10], [vI (atv sc (16 + y))], LAY (shA A155) (shF F155), 487, 41141)) hc169 0 rfl trivial ?_
      refine R_s (P := True) (f' := (330, [some (vR 0), some (vR 1), some (vJ ((al + N_Y A0 F0 0) + N_Y A0 F0 1)), none, some (vI y), some (vI 2), a6, a7, a8, a9, a10], [vI 3, vI (atv sc (16 + y))], LAY (shA A155) (shF F155), 487, 41141)) hc169 1 rfl trivial ?_
      refine R_s (P := True) (f' := (331, [some (vR 0), some (vR 1), some (vJ ((al + N_Y A0 F0 0) + N_Y A0 F0 1)), none, some (vI y), some (vI 2), a6, a7, a8, a9, a10], [vI (bnd (atv sc (16 + y)) 3)], LAY (shA A155) (shF F155), 487, 41141)) hc169 1 rfl trivial ?_
      rw [hz149]
      refine R_s (P := True) (f' := (332, [some (vR 0), some (vR 1), some (vJ ((al + N_Y A0 F0 0) + N_Y A0 F0 1)), none, some (vI y), some (vI 2), a6, a7, a8, a9, a10], [vI 2, vI z149], LAY (shA A155) (shF F155), 487, 41141)) hc169 1 rfl trivial ?_
      refine R_ic (t := 407) hc169 rfl rfl (fun (z : 2 ≤ z149) => absurd z (by omega)) (fun (_ : ¬ (2 ≤ z149)) => ?_)
      exact y_r (sc := sc) (y := y) (A0 := A155) (F0 := F155) hY155.1 hY155.2.2.2.1 hY155.2.2.2.2.1 _ (cb := c148 + 1) (by omega) (fun c A F a5 a6 a7 a8 a9 a10 k0 k1 k2 k3 => y_h h0y h5y _ rfl (cb := c148 + 1 + 200) (by omega) (fun c A F a5 a6 a7 a8 a9 a10 k0 k1 k2 k4 => hk _ c A F _ _ _ _ _ _ k0 (by omega) k2 k4) c A F _ _ _ _ _ _ k0 k1 k2 k3) _ A155 F155 _ _ _ _ _ _ (by omega) (by omega) hY155 PST_0
  · refine R_s (P := inI (16 + y) ∧ True) (f' := (250, [some (vR 0), some (vR 1), some (vJ ((al + N_Y A0 F0 0) + N_Y A0 F0 1)), none, some (vI y), some (vI 2), a6, a7, a8, a9, a10], [vI (16 + y), vR 0, vR 1], LAY (shA A148) (shF F148), 487, 41141)) hc169 5 rfl ⟨⟨by omega, by omega⟩, trivial⟩ ?_
    refine R_cs hc169 rfl rfl (at_ok2 hY148.2.1 hlen hsc (16 + y) (by omega)) (fun r G9 hp9 => ?_)
    obtain ⟨rfl, rfl⟩ := hp9
    refine R_s (f' := (253, [some (vR 0), some (vR 1), some (vJ ((al + N_Y A0 F0 0) + N_Y A0 F0 1)), none, some (vI y), some (vI 2), a6, a7, a8, a9, a10], [vI (atv sc (16 + y)), vR 1], LAY (shA A148) (shF F148), 487, 41141)) hc169 0 rfl trivial ?_
    refine R_s (P := (0 ≤ 2 ∧ 2 < 32) ∧ True) (f' := (257, [some (vR 0), some (vR 1), some (vJ ((al + N_Y A0 F0 0) + N_Y A0 F0 1)), none, some (vI y), some (vI 2), a6, a7, a8, a9, a10], [vI 7, vI ((atv sc (16 + y)) / 2 ^ (2 : Int).toNat), vR 1], LAY (shA A148) (shF F148), 487, 41141)) hc169 3 rfl ⟨⟨by omega, by omega⟩, trivial⟩ ?_
    refine R_s (P := True) (f' := (258, [some (vR 0), some (vR 1), some (vJ ((al + N_Y A0 F0 0) + N_Y A0 F0 1)), none, some (vI y), some (vI 2), a6, a7, a8, a9, a10], [vI (bnd ((atv sc (16 + y)) / 2 ^ (2 : Int).toNat) 7), vR 1], LAY (shA A148) (shF F148), 487, 41141)) hc169 1 rfl trivial ?_
    obtain ⟨z157, hz157, hz157a, hz157b⟩ := bnd_ex ((atv sc (16 + y)) / 2 ^ (2 : Int).toNat) (7) ⟨by decide, by decide⟩
    rw [hz157]
    refine R_s (P := True) (f' := (260, [some (vR 0), some (vR 1), some (vJ ((al + N_Y A0 F0 0) + N_Y A0 F0 1)), none, some (vI y), some (vI 2), a6, a7, a8, a9, a10], [vI 1, vR 1, vI z157, vR 1], LAY (shA A148) (shF F148), 487, 41141)) hc169 2 rfl trivial ?_
    refine R_cv hc169 rfl rfl (op_count hY148.1 (by omega) (1) ⟨by decide, by decide⟩) (fun r G9 hp9 => ?_)
    obtain ⟨x158, A158, F158, hR158, rfl, rfl, e158, hE158⟩ := hp9
    have hY158 := YB_P hY148 hR158 e158 hE158.1
    have hP158 := PST_tr hP148 hE158.1
    obtain rfl : F0 3 = x158 := ((hE158.2 rfl).trans (hP148.2 3 rfl)).symm
    refine R_s (f' := (263, [some (vR 0), some (vR 1), some (vJ ((al + N_Y A0 F0 0) + N_Y A0 F0 1)), none, some (vI y), some (vI 2), a6, a7, a8, a9, a10], [vI (F0 3), vI z157, vR 1], LAY (shA A158) (shF F158), 487, 41141)) hc169 0 rfl trivial ?_
    refine R_s (P := (0 ≤ z157 ∧ 0 < (F0 3)) ∧ True) (f' := (264, [some (vR 0), some (vR 1), some (vJ ((al + N_Y A0 F0 0) + N_Y A0 F0 1)), none, some (vI y), some (vI 2), a6, a7, a8, a9, a10], [vI (z157 % (F0 3)), vR 1], LAY (shA A158) (shF F158), 487, 41141)) hc169 1 rfl ⟨⟨by omega, by omega⟩, trivial⟩ ?_
    obtain ⟨z159, hz159, hz159a, hz159b⟩ := mod_ex (z157) ((F0 3)) (by omega)
    rw [hz159]
    refine R_s (P := True) (f' := (265, [some (vR 0), some (vR 1), some (vJ ((al + N_Y A0 F0 0) + N_Y A0 F0 1)), none, some (vI y), some (vI 2), a6, a7, a8, a9, a10], [vI (-1), vI z159, vR 1], LAY (shA A158) (shF F158), 487, 41141)) hc169 1 rfl trivial ?_
    refine R_cv hc169 rfl rfl (op_death hY158.1 (by omega) (z159) ((-1)) ⟨by omega, by omega⟩ ⟨by decide, by decide⟩) (fun r G9 hp9 => ?_)
    obtain ⟨x160, A160, F160, hR160, rfl, rfl, e160, hE160⟩ := hp9
    have hY160 := YB_K hY158 hR160 e160 hE160
    refine R_s (f' := (268, [some (vR 0), some (vR 1), some (vJ ((al + N_Y A0 F0 0) + N_Y A0 F0 1)), none, some (vI y), some (vI 2), a6, a7, a8, a9, a10], [vI x160], LAY (shA A160) (shF F160), 487, 41141)) hc169 0 rfl trivial ?_
    refine R_s (P := inI (16 + y) ∧ True) (f' := (275, [some (vR 0), some (vR 1), some (vJ ((al + N_Y A0 F0 0) + N_Y A0 F0 1)), none, some (vI y), some (vI 2), a6, a7, a8, a9, a10], [vI (16 + y), vR 0], LAY (shA A160) (shF F160), 487, 41141)) hc169 5 rfl ⟨⟨by omega, by omega⟩, trivial⟩ ?_
    refine R_cs hc169 rfl rfl (at_ok2 hY160.2.1 hlen hsc (16 + y) (by omega)) (fun r G9 hp9 => ?_)
    obtain ⟨rfl, rfl⟩ := hp9
    refine R_s (f' := (278, [some (vR 0), some (vR 1), some (vJ ((al + N_Y A0 F0 0) + N_Y A0 F0 1)), none, some (vI y), some (vI 2), a6, a7, a8, a9, a10], [vI (atv sc (16 + y))], LAY (shA A160) (shF F160), 487, 41141)) hc169 0 rfl trivial ?_
    refine R_s (P := True) (f' := (279, [some (vR 0), some (vR 1), some (vJ ((al + N_Y A0 F0 0) + N_Y A0 F0 1)), none, some (vI y), some (vI 2), a6, a7, a8, a9, a10], [vI 3, vI (atv sc (16 + y))], LAY (shA A160) (shF F160), 487, 41141)) hc169 1 rfl trivial ?_
    refine R_s (P := True) (f' := (280, [some (vR 0), some (vR 1), some (vJ ((al + N_Y A0 F0 0) + N_Y A0 F0 1)), none, some (vI y), some (vI 2), a6, a7, a8, a9, a10], [vI (bnd (atv sc (16 + y)) 3)], LAY (shA A160) (shF F160), 487, 41141)) hc169 1 rfl trivial ?_
    rw [hz149]
    refine R_s (P := True) (f' := (281, [some (vR 0), some (vR 1), some (vJ ((al + N_Y A0 F0 0) + N_Y A0 F0 1)), none, some (vI y), some (vI 2), a6, a7, a8, a9, a10], [vI 1, vI z149], LAY (shA A160) (shF F160), 487, 41141)) hc169 1 rfl trivial ?_
    refine R_ic (t := 320) hc169 rfl rfl (fun (_ : ¬ z149 = 1) => ?_) (fun (z : ¬ (¬ z149 = 1)) => absurd (show ¬ z149 = 1 by omega) z)
    refine R_s (P := inI (16 + y) ∧ True) (f' := (326, [some (vR 0), some (vR 1), some (vJ ((al + N_Y A0 F0 0) + N_Y A0 F0 1)), none, some (vI y), some (vI 2), a6, a7, a8, a9, a10], [vI (16 + y), vR 0], LAY (shA A160) (shF F160), 487, 41141)) hc169 4 rfl ⟨⟨by omega, by omega⟩, trivial⟩ ?_
    refine R_cs hc169 rfl rfl (at_ok2 hY160.2.1 hlen hsc (16 + y) (by omega)) (fun r G9 hp9 => ?_)
    obtain ⟨rfl, rfl⟩ := hp9
    refine R_s (f' := (329, [some (vR 0), some (vR 1), some (vJ ((al + N_Y A0 F0 0) + N_Y A0 F0 1)), none, some (vI y), some (vI 2), a6, a7, a8, a9, a10], [vI (atv sc (16 + y))], LAY (shA A160) (shF F160), 487, 41141)) hc169 0 rfl trivial ?_
    refine R_s (P := True) (f' := (330, [some (vR 0), some (vR 1), some (vJ ((al + N_Y A0 F0 0) + N_Y A0 F0 1)), none, some (vI y), some (vI 2), a6, a7, a8, a9, a10], [vI 3, vI (atv sc (16 + y))], LAY (shA A160) (shF F160), 487, 41141)) hc169 1 rfl trivial ?_
    refine R_s (P := True) (f' := (331, [some (vR 0), some (vR 1), some (vJ ((al + N_Y A0 F0 0) + N_Y A0 F0 1)), none, some (vI y), some (vI 2), a6, a7, a8, a9, a10], [vI (bnd (atv sc (16 + y)) 3)], LAY (shA A160) (shF F160), 487, 41141)) hc169 1 rfl trivial ?_
    rw [hz149]
    refine R_s (P := True) (f' := (332, [some (vR 0), some (vR 1), some (vJ ((al + N_Y A0 F0 0) + N_Y A0 F0 1)), none, some (vI y), some (vI 2), a6, a7, a8, a9, a10], [vI 2, vI z149], LAY (shA A160) (shF F160), 487, 41141)) hc169 1 rfl trivial ?_
    refine R_ic (t := 407) hc169 rfl rfl (fun (z : 2 ≤ z149) => absurd z (by omega)) (fun (_ : ¬ (2 ≤ z149)) => ?_)
    exact y_r (sc := sc) (y := y) (A0 := A160) (F0 := F160) hY160.1 hY160.2.2.2.1 hY160.2.2.2.2.1 _ (cb := c148 + 1 + 1) (by omega) (fun c A F a5 a6 a7 a8 a9 a10 k0 k1 k2 k3 => y_h h0y h5y _ rfl (cb := c148 + 1 + 1 + 200) (by omega) (fun c A F a5 a6 a7 a8 a9 a10 k0 k1 k2 k4 => hk _ c A F _ _ _ _ _ _ k0 (by omega) k2 k4) c A F _ _ _ _ _ _ k0 k1 k2 k3) _ A160 F160 _ _ _ _ _ _ (by omega) (by omega) hY160 PST_0

theorem y_fin {sc : List Int} {y : Int} (h6y : 6 ≤ y) (al c : Int) (A0 : Nat → List Int) (F0 : Nat → Int) (a5 a6 a7 a8 a9 a10 : Option AV) (h0c : 0 ≤ c) (hc : c ≤ 90000) (hY0 : YB sc y c A0 F0) : R 169 (10, [some (vR 0), some (vR 1), some (vJ al), none, some (vI y), a5, a6, a7, a8, a9, a10], [], LAY (shA A0) (shF F0), 487, 41141) (fun r _ => r = some (vI 1)) := by
  obtain ⟨hR0, hA0, hF2, hF0, hF3, hS0, hS1⟩ := hY0
  have hY0 : YB sc y c A0 F0 := ⟨hR0, hA0, hF2, hF0, hF3, hS0, hS1⟩
  have hP0 : PST A0 F0 A0 F0 := PST_0
  refine R_s (P := True) (f' := (14, [some (vR 0), some (vR 1), some (vJ al), none, some (vI y), a5, a6, a7, a8, a9, a10], [vI 6, vI y], LAY (shA A0) (shF F0), 487, 41141)) hc169 2 rfl trivial ?_
  refine R_ic (t := 498) hc169 rfl rfl (fun (_ : 6 ≤ y) => ?_) (fun (z : ¬ (6 ≤ y)) => absurd (show 6 ≤ y by omega) z)
  refine R_s (P := True) (f' := (502, [some (vR 0), some (vR 1), some (vJ al), none, some (vI y), a5, a6, a7, a8, a9, a10], [vI 1, vI 8, vR 1], LAY (shA A0) (shF F0), 487, 41141)) hc169 3 rfl trivial ?_
  refine R_cv hc169 rfl rfl (op_account hY0.1 (by omega) (8) (1) ⟨by decide, by decide⟩ ⟨by decide, by decide⟩ (.inr rfl)) (fun r G9 hp9 => ?_)
  obtain ⟨x163, A163, F163, hR163, rfl, rfl, e163, hE163⟩ := hp9
  have hY163 := YB_P hY0 hR163 e163 hE163.1
  have hP163 := PST_tr hP0 hE163.1
  have hX163 : x163 = 0 := hE163.2.2.2 rfl rfl
  refine R_s (f' := (505, [some (vR 0), some (vR 1), some (vJ al), none, some (vI y), a5, a6, a7, a8, a9, a10], [vJ x163], LAY (shA A163) (shF F163), 487, 41141)) hc169 0 rfl trivial ?_
  refine R_s (P := True) (f' := (507, [some (vR 0), some (vR 1), some (vJ al), none, some (vI y), a5, a6, a7, a8, a9, a10], [vI (if 0 < x163 then 1 else if x163 = 0 then 0 else -1)], LAY (shA A163) (shF F163), 487, 41141)) hc169 2 rfl trivial ?_
  refine R_if (t := 546) hc169 rfl rfl (fun (c2 : ¬ (if 0 < x163 then 1 else if x163 = 0 then 0 else -1) = 0) => ?_) (fun (c2 : ¬ (¬ (if 0 < x163 then 1 else if x163 = 0 then 0 else -1) = 0)) => ?_)
  · rw [lcm_eq] at c2
    exfalso
    omega
  · rw [lcm_eq] at c2
    refine R_s (P := True) (f' := (514, [some (vR 0), some (vR 1), some (vJ al), none, some (vI y), a5, a6, a7, a8, a9, a10], [vI 9, vI 0, vR 1], LAY (shA A163) (shF F163), 487, 41141)) hc169 3 rfl trivial ?_
    refine R_cv hc169 rfl rfl (op_gets_0 hY163.1 (by omega) (9) ⟨by decide, by decide⟩ (by have := hY163.2.2.2.1; omega)) (fun r G9 hp9 => ?_)
    obtain ⟨x164, A164, F164, hR164, rfl, rfl, e164, hE164⟩ := hp9
    have hY164 := YB_P hY163 hR164 e164 hE164.1
    have hP164 := PST_tr hP163 hE164.1
    have hX164 : x164 = -3 := hE164.2.2 (by have := (D_any hY163.1 0 (by have := hY163.2.2.2.1; omega)).1.2.1; have h8 : (F163 8).toNat ≤ 6 := this; omega)
    refine R_s (f' := (517, [some (vR 0), some (vR 1), some (vJ al), none, some (vI y), a5, a6, a7, a8, a9, a10], [vI x164], LAY (shA A164) (shF F164), 487, 41141)) hc169 0 rfl trivial ?_
    refine R_s (P := True) (f' := (519, [some (vR 0), some (vR 1), some (vJ al), none, some (vI y), a5, a6, a7, a8, a9, a10], [vI (-3), vI x164], LAY (shA A164) (shF F164), 487, 41141)) hc169 1 rfl trivial ?_
    refine R_ic (t := 546) hc169 rfl rfl (fun (z : ¬ x164 = (-3)) => absurd z (by omega)) (fun (_ : ¬ (¬ x164 = (-3))) => ?_)
    refine R_s (P := True) (f' := (524, [some (vR 0), some (vR 1), some (vJ al), none, some (vI y), a5, a6, a7, a8, a9, a10], [vI 0, vR 1], LAY (shA A164) (shF F164), 487, 41141)) hc169 2 rfl trivial ?_
    refine R_cv hc169 rfl rfl (op_run hY164.1 (by omega) 0 ⟨by decide, by decide⟩ (by have := hY164.2.2.2.1; omega)) (fun r G9 hp9 => ?_)
    obtain ⟨x165, A165, F165, hR165, rfl, rfl, e165, hE165⟩ := hp9
    obtain ⟨hx165, hz165⟩ := hE165.2.1 rfl
    refine R_s (f' := (527, [some (vR 0), some (vR 1), some (vJ al), none, some (vI y), a5, a6, a7, a8, a9, a10], [vI x165], LAY (shA A165) (shF F165), 487, 41141)) hc169 0 rfl trivial ?_
    refine R_s (P := True) (f' := (529, [some (vR 0), some (vR 1), some (vJ al), none, some (vI y), a5, a6, a7, a8, a9, a10], [vI (-7), vI x165], LAY (shA A165) (shF F165), 487, 41141)) hc169 1 rfl trivial ?_
    refine R_ic (t := 546) hc169 rfl rfl (fun (z : ¬ x165 = (-7)) => absurd z (by omega)) (fun (_ : ¬ (¬ x165 = (-7))) => ?_)
    refine R_s (P := True) (f' := (534, [some (vR 0), some (vR 1), some (vJ al), none, some (vI y), a5, a6, a7, a8, a9, a10], [vI (-1), vR 1], LAY (shA A165) (shF F165), 487, 41141)) hc169 2 rfl trivial ?_
    refine R_cv hc169 rfl rfl (op_run hR165 (by omega) (-1) ⟨by decide, by decide⟩ (by have := hY164.2.2.2.1; have := hz165; omega)) (fun r G9 hp9 => ?_)
    obtain ⟨x166, A166, F166, hR166, rfl, rfl, e166, hE166⟩ := hp9
    have hx166 := hE166.2.2 rfl
    refine R_s (f' := (537, [some (vR 0), some (vR 1), some (vJ al), none, some (vI y), a5, a6, a7, a8, a9, a10], [vI x166], LAY (shA A166) (shF F166), 487, 41141)) hc169 0 rfl trivial ?_
    refine R_s (P := True) (f' := (539, [some (vR 0), some (vR 1), some (vJ al), none, some (vI y), a5, a6, a7, a8, a9, a10], [vI (-4), vI x166], LAY (shA A166) (shF F166), 487, 41141)) hc169 1 rfl trivial ?_
    refine R_ic (t := 546) hc169 rfl rfl (fun (z : ¬ x166 = (-4)) => absurd z (by omega)) (fun (_ : ¬ (¬ x166 = (-4))) => ?_)
    refine R_s (P := True) (f' := (547, [some (vR 0), some (vR 1), some (vJ al), none, some (vI y), a5, a6, a7, a8, a9, a10], [vI 1], LAY (shA A166) (shF F166), 487, 41141)) hc169 2 rfl trivial ?_
    exact R_retz hc169 rfl rfl (Or.inr rfl) rfl

theorem y_all {sc : List Int} (hlen : sc.length ≤ 260) (hsc : ∀ z ∈ sc, inI z) : ∀ (m : Nat) (y al c : Int) (A : Nat → List Int) (F : Nat → Int) (a5 a6 a7 a8 a9 a10 : Option AV), 6 - y ≤ m → 0 ≤ y → 0 ≤ c → c ≤ 1000 + 1000 * y → y ≤ 6 → YB sc y c A F → al = TOT A F → R 169 (10, [some (vR 0), some (vR 1), some (vJ al), none, some (vI y), a5, a6, a7, a8, a9, a10], [], LAY (shA A) (shF F), 487, 41141) (fun r _ => r = some (vI 1)) := by
  intro m
  induction m with
  | zero =>
    intro y al c A F a5 a6 a7 a8 a9 a10 hm h0y h0c hc h6 hY hal
    exact y_fin (by push_cast at hm; omega) al c A F _ _ _ _ _ _ h0c (by omega) hY
  | succ m ih =>
    intro y al c A F a5 a6 a7 a8 a9 a10 hm h0y h0c hc h6 hY hal
    by_cases q : y = 6
    · exact y_fin (by omega) al c A F _ _ _ _ _ _ h0c (by omega) hY
    · exact y_year hlen hsc h0y (by omega) al (cb := 1000 + 1000 * y) (by omega) (fun a c A F a5 a6 a7 a8 a9 a10 k0 k1 k2 k3 => ih (y + 1) a c A F _ _ _ _ _ _ (by push_cast at hm; omega) (by omega) k0 (by omega) (by omega) k2 k3) c A F _ _ _ _ _ _ h0c hc hY hal
theorem am_law : LAWRUN := by
  intro sc hlen hsc
  refine R_s (P := True) (f' := (1, [some (vR 0), none, none, none, none, none, none, none, none, none, none], [vR 0], [eA .int sc], 0, 0)) hc169 1 rfl trivial ?_
  refine R_cs hc169 rfl rfl (build_ok hlen hsc) (fun r G9 hp9 => ?_)
  obtain ⟨c, A, F, h0c, hc, hB, rfl, rfl, hF0, hF3, hS0, hS1⟩ := hp9
  obtain ⟨hR, e0, h2, h84, h85⟩ := hB
  refine R_s (f' := (4, [some (vR 0), none, none, none, none, none, none, none, none, none, none], [vR 1], LAY (shA A) (shF F), 487, 41141)) hc169 0 rfl trivial ?_
  refine R_s (P := True) (f' := (10, [some (vR 0), some (vR 1), some (vJ 0), none, some (vI 0), none, none, none, none, none, none], [], LAY (shA A) (shF F), 487, 41141)) hc169 5 rfl trivial ?_
  have hT : TOT A F = 0 := by
    unfold TOT
    rw [h84, h85]
    have e1 : sm (fun p : Nat => rd (initA sc 84) p) (F 3).toNat = 0 := sm_zero _ (fun p _ => rd_rep (n := lenOf 84))
    have e2 : sm (fun p : Nat => rd (initA sc 85) p) 8 = 0 := sm_zero _ (fun p _ => rd_rep (n := lenOf 85))
    rw [e1, e2]
    rfl
  exact y_all hlen hsc 6 0 0 c A F _ _ _ _ _ _ (by omega) (by omega) h0c (by omega) (by omega) ⟨hR, e0, h2, hF0, hF3, hS0, hS1⟩ hT.symm
