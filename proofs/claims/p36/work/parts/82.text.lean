/-! the law's own text is a deed: what a reader does lies in what it reads -/
section
variable {l l' : List Int} {n n' : Int}
theorem eE_x (h : nx l n = nx l' n') : eE l n = eE l' n' := by
  funext c s
  unfold eE
  rw [h]
theorem wD_x (h : nx l n = nx l' n') : ∀ cs : List Int, wD l n cs = wD l' n' cs
  | [] => rfl
  | c :: cs => by
    funext s
    show wD l n cs (eE l n c s) = wD l' n' cs (eE l' n' c s)
    rw [eE_x h, wD_x h cs]
theorem dGl_x (h : nx l n = nx l' n') : ∀ k : Nat, dGl l n k = dGl l' n' k
  | 0 => rfl
  | k + 1 => by
    funext v a
    show (if 48 ≤ nx l n a ∧ nx l n a ≤ 57 then dGl l n k (v * 10 + nx l n a - 48) (a + 1) else (v, a)) = (if 48 ≤ nx l' n' a ∧ nx l' n' a ≤ 57 then dGl l' n' k (v * 10 + nx l' n' a - 48) (a + 1) else (v, a))
    rw [h, dGl_x h k]
theorem dG_x (h : nx l n = nx l' n') (k : Nat) (s : Int × Int) : dG l n k s = dG l' n' k s := by
  unfold dG
  rw [dGl_x h]
theorem hS_x (h : nx l n = nx l' n') (s : Int × Int) : hS l n s = hS l' n' s := by
  unfold hS
  rw [h]
theorem fD_x (h : nx l n = nx l' n') (s : Int × Int) : fD l n s = fD l' n' s := by
  unfold fD
  rw [h, wD_x h, wD_x h, wD_x h, eE_x h]
theorem t2_x (h : nx l n = nx l' n') (s : Int × Int) : t2 l n s = t2 l' n' s := by
  unfold t2
  rw [wD_x h, fD_x h]
theorem t3_x (h : nx l n = nx l' n') (s : Int × Int) : t3 l n s = t3 l' n' s := by
  unfold t3
  rw [t2_x h, h]
theorem tS_x (h : nx l n = nx l' n') (s : Int × Int) : tS l n s = tS l' n' s := by
  unfold tS
  rw [t3_x h, dG_x h, h]
theorem eK_x (h : nx l n = nx l' n') (i : Nat) (s : Int × Int) : eK l n i s = eK l' n' i s := by
  unfold eK
  rw [h]
theorem pN_x (h : nx l n = nx l' n') (w : List Int) (s : Int × Int) : pN l n w s = pN l' n' w s := by
  unfold pN
  rw [wD_x h, dG_x h]
theorem pR_x (h : nx l n = nx l' n') (w : List Int) (s : Int × Int) : pR l n w s = pR l' n' w s := by
  unfold pR
  rw [pN_x h, wD_x h, dG_x h]
theorem pL_x (h : nx l n = nx l' n') (s : Int × Int) : pL l n s = pL l' n' s := by
  unfold pL
  rw [pR_x h, wD_x h]
theorem pH_x (h : nx l n = nx l' n') (s : Int × Int) : pH l n s = pH l' n' s := by
  unfold pH
  rw [pN_x h, wD_x h, hS_x h]
theorem tB_x (h : nx l n = nx l' n') (i : Nat) (s : Int × Int) : tB l n i s = tB l' n' i s := by
  unfold tB
  rw [eK_x h, pH_x h, pL_x h, pR_x h, wD_x h, wD_x h, h]
theorem eN_x (h : nx l n = nx l' n') (i : Nat) (s : Int × Int) : eN l n i s = eN l' n' i s := by
  unfold eN
  rw [eK_x h, tB_x h, tS_x h, wD_x h, hS_x h]
theorem sT_x (h : nx l n = nx l' n') : ∀ i : Nat, sT l n i = sT l' n' i
  | 0 => rfl
  | i + 1 => by
    show wD l n SEMI (eN l n i (sT l n i)) = wD l' n' SEMI (eN l' n' i (sT l' n' i))
    rw [sT_x h i, eN_x h, wD_x h]
end
theorem ltx_1 : eN lt_ch 23 0 (0, 0) = (0, 15) ∧ eK lt_ch 23 0 (0, 0) = 1 ∧ wD lt_ch 23 SEMI (0, 15) = (0, 17) ∧ eN lt_ch 23 1 (0, 17) = (0, 23) ∧ eK lt_ch 23 1 (0, 17) = 3 ∧ (pN lt_ch 23 LINE (0, 0)).2 = 12 ∧ (pR lt_ch 23 LINE (0, 0)).2 = 0 := by decide +kernel
theorem ltx_s : sT lt_ch 23 1 = (0, 17) := by
  show wD lt_ch 23 SEMI (eN lt_ch 23 0 (0, 0)) = (0, 17)
  rw [ltx_1.1]
  exact ltx_1.2.2.1
theorem fb_ok {l : List Int} {n : Int} (hn : n = 23) (hl : ∀ j : Nat, j < 23 → rd l j = lt_ch.getD j 0) {m : Int} (hm : 1 ≤ m) : sUCC l n 2 ∧ ∀ K N Ro Ho He Fi Si Th : Nat → Int, (∀ j : Nat, j < 2 → eV l n j (sT l n j) (K j) (N j) (Ro j) (Ho j) (He j) (Fi j) (Si j) (Th j)) → sOUND K N Ro m 2 := by
  subst hn
  have h : nx l 23 = nx lt_ch 23 := by
    funext a
    unfold nx
    by_cases q : 0 ≤ a ∧ a < 23
    · rw [if_pos q, if_pos q]
      have z := hl a.toNat (by omega)
      rw [show ((a.toNat : Nat) : Int) = a by omega] at z
      exact z
    · rw [if_neg q, if_neg q]
  obtain ⟨h1, h2, h3, h4, h5, h6, h7⟩ := ltx_1
  have e0 : eK l 23 0 (sT l 23 0) = 1 := by rw [eK_x h]; exact h2
  have e1 : eK l 23 1 (sT l 23 1) = 3 := by rw [eK_x h, sT_x h, ltx_s]; exact h5
  refine ⟨⟨1, rfl, by decide, fun j hj => ?_, ?_, e1⟩, fun K N Ro Ho He Fi Si Th hV => ?_⟩
  · have j0 : j = 0 := by omega
    subst j0
    refine ⟨?_, ?_, ?_⟩
    · rw [eN_x h]
      show (eN lt_ch 23 0 (0, 0)).1 = 0
      rw [h1]
    · rw [e0]
      decide
    · rw [sT_x h, show 0 + 1 = 1 from rfl, ltx_s]
  · rw [eN_x h, sT_x h, ltx_s]
    exact h4
  · have v0 := hV 0 (by decide)
    have v1 := hV 1 (by decide)
    have k0 : K 0 = 1 := v0.1.trans e0
    have k1 : K 1 = 3 := v1.1.trans e1
    obtain ⟨n0, r0, -⟩ := v0.2.2.1 k0
    have n1 : N 0 = 12 := by rw [n0, pN_x h]; exact h6
    have r1 : Ro 0 = 0 := by rw [r0, pR_x h]; exact h7
    refine ⟨fun j hj => ?_, ?_⟩
    · match j, hj with
      | 0, _ =>
        intro z
        unfold bAD at z
        omega
      | 1, _ =>
        intro z
        unfold bAD at z
        omega
    · show 0 + (if K 0 = 1 then N 0 else 0) + (if K 1 = 1 then N 1 else 0) ≤ 12
      rw [if_pos k0, if_neg (by omega)]
      omega
