/-- the byte at a place of the tape; -1 behind its end -/
def nx (l : List Int) (n a : Int) : Int := if 0 ≤ a ∧ a < n then rd l a else -1
/-- a reader's state: whether a fault was met, and the place -/
def eE (l : List Int) (n c : Int) (s : Int × Int) : Int × Int := if s.1 = 0 ∧ nx l n s.2 = c then (0, s.2 + 1) else (1, s.2)
def wD (l : List Int) (n : Int) : List Int → Int × Int → Int × Int
  | [], s => s
  | c :: cs, s => wD l n cs (eE l n c s)
def dGl (l : List Int) (n : Int) : Nat → Int → Int → Int × Int
  | 0, v, a => (v, a)
  | k + 1, v, a => if 48 ≤ nx l n a ∧ nx l n a ≤ 57 then dGl l n k (v * 10 + nx l n a - 48) (a + 1) else (v, a)
def dG (l : List Int) (n : Int) (k : Nat) (s : Int × Int) : (Int × Int) × Int := if s.1 = 0 then ((if (dGl l n k 0 s.2).2 = s.2 then 1 else 0, (dGl l n k 0 s.2).2), (dGl l n k 0 s.2).1) else ((1, s.2), 0)
def hS (l : List Int) (n : Int) (s : Int × Int) : (Int × Int) × Int := if s.1 = 0 ∧ 97 ≤ nx l n s.2 ∧ nx l n s.2 ≤ 104 then ((0, s.2 + 1), nx l n s.2 - 97) else ((1, s.2), 0)
def FIX : List Int := [102, 105, 120, 32]
def SPC : List Int := [32]
def IFF : List Int := [32, 105, 102, 32]
def ALIVE : List Int := [97, 108, 105, 118, 101]
def YY : List Int := [121]
def EAR : List Int := [101, 97, 114]
def IELD : List Int := [105, 101, 108, 100]
def LINE : List Int := [108, 105, 110, 101, 32]
def PP : List Int := [32, 112]
def HEADS : List Int := [104, 101, 97, 100, 115]
def STEM : List Int := [115, 116, 101, 109]
def MAN : List Int := [109, 97, 110, 32]
def REST : List Int := [114, 101, 115, 116, 32]
def SEMI : List Int := [59, 32]
def fD (l : List Int) (n : Int) (s : Int × Int) : (Int × Int) × Int :=
  if nx l n s.2 = 97 then (wD l n ALIVE s, 2) else
  if (eE l n 121 s).1 = 0 ∧ nx l n (eE l n 121 s).2 = 101 then (wD l n EAR (eE l n 121 s), 0) else (wD l n IELD (eE l n 121 s), 1)
/-- a test's pieces: behind its field; its sign's place -/
def t2 (l : List Int) (n : Int) (s : Int × Int) : (Int × Int) × Int := if (wD l n IFF s).1 = 0 then fD l n (wD l n IFF s) else (wD l n IFF s, 0)
def t3 (l : List Int) (n : Int) (s : Int × Int) : Int × Int := if (t2 l n s).1.1 = 0 ∧ (nx l n (t2 l n s).1.2 = 61 ∨ nx l n (t2 l n s).1.2 = 60 ∨ nx l n (t2 l n s).1.2 = 62) then (0, (t2 l n s).1.2 + 1) else (1, (t2 l n s).1.2)
def tS (l : List Int) (n : Int) (s : Int × Int) : Int × Int := if s.1 = 0 ∧ nx l n s.2 = 32 then (dG l n 4 (t3 l n s)).1 else s
def tF (l : List Int) (n : Int) (s : Int × Int) : Int := if s.1 = 0 ∧ nx l n s.2 = 32 then (t2 l n s).2 else -1
def tG (l : List Int) (n : Int) (s : Int × Int) : Int := nx l n (t2 l n s).1.2
def tH (l : List Int) (n : Int) (s : Int × Int) : Int := (dG l n 4 (t3 l n s)).2
theorem eE_f {l : List Int} {n c a : Int} : eE l n c (1, a) = (1, a) := by
  unfold eE
  rw [if_neg (fun h => absurd (show (1 : Int) = 0 from h.1) (by decide))]
theorem wD_f {l : List Int} {n a : Int} : ∀ cs : List Int, wD l n cs (1, a) = (1, a)
  | [] => rfl
  | c :: cs => by
    simp only [wD]
    rw [eE_f]
    exact wD_f cs
theorem dG_f {l : List Int} {n a : Int} {k : Nat} : dG l n k (1, a) = ((1, a), 0) := by
  unfold dG
  rw [if_neg (show ¬ (1 : Int) = 0 by decide)]
theorem hS_f {l : List Int} {n a : Int} : hS l n (1, a) = ((1, a), 0) := by
  unfold hS
  rw [if_neg (fun h => absurd (show (1 : Int) = 0 from h.1) (by decide))]
theorem tS_f {l : List Int} {n a : Int} : tS l n (1, a) = (1, a) := by
  unfold tS
  rw [if_neg (fun h => absurd (show (1 : Int) = 0 from h.1) (by decide))]
theorem eE_y {l : List Int} {n c a : Int} (h : nx l n a = c) : eE l n c (0, a) = (0, a + 1) := by
  unfold eE
  rw [if_pos ⟨rfl, h⟩]
theorem eE_n {l : List Int} {n c a : Int} (h : ¬ nx l n a = c) : eE l n c (0, a) = (1, a) := by
  unfold eE
  rw [if_neg (fun q => h q.2)]
theorem nx_in {l : List Int} {n a : Int} (h : 0 ≤ nx l n a) : 0 ≤ a ∧ a < n := by
  unfold nx at h
  split at h
  · rename_i q
    exact q
  · omega
theorem wD_hd {l : List Int} {n c a b : Int} {cs : List Int} (h : wD l n (c :: cs) (0, a) = (0, b)) : nx l n a = c := by
  refine Classical.byContradiction (fun q => ?_)
  simp only [wD] at h
  rw [eE_n q, wD_f] at h
  exact absurd (show (1 : Int) = 0 from congrArg Prod.fst h) (by decide)
theorem wD_no {l : List Int} {n c a : Int} {cs : List Int} (h : ¬ nx l n a = c) : wD l n (c :: cs) (0, a) = (1, a) := by
  simp only [wD]
  rw [eE_n h, wD_f]
theorem dGl_bd {l : List Int} {n : Int} : ∀ (k : Nat) (v a M : Int), 0 ≤ v → v + 1 ≤ M → 0 ≤ a → a ≤ n → 0 ≤ (dGl l n k v a).1 ∧ (dGl l n k v a).1 + 1 ≤ M * 10 ^ k ∧ a ≤ (dGl l n k v a).2 ∧ (dGl l n k v a).2 ≤ n ∧ (dGl l n k v a).2 ≤ a + k
  | 0, v, a, M, h0, h1, h2, h3 => by
    simp only [dGl]
    exact ⟨h0, by rw [Int.pow_zero]; omega, Int.le_refl _, h3, by omega⟩
  | k + 1, v, a, M, h0, h1, h2, h3 => by
    simp only [dGl]
    have hM : 0 ≤ M * 10 ^ k := Int.mul_nonneg (by omega) (Int.pow_nonneg (by decide))
    have hp : M * 10 ^ (k + 1) = M * 10 ^ k * 10 := by rw [Int.pow_succ, ← Int.mul_assoc]
    split
    · rename_i q
      have hin := nx_in (l := l) (n := n) (a := a) (by omega)
      have z := dGl_bd (l := l) (n := n) k (v * 10 + nx l n a - 48) (a + 1) (M * 10) (by omega) (by omega) (by omega) (by omega)
      have e : M * 10 * 10 ^ k = M * 10 ^ k * 10 := by rw [Int.mul_assoc, Int.mul_comm 10, ← Int.mul_assoc]
      rw [e] at z
      rw [hp]
      refine ⟨z.1, z.2.1, by omega, z.2.2.2.1, by push_cast; omega⟩
    · have h5 : M ≤ M * 10 ^ k := by
        have := Int.mul_le_mul_of_nonneg_left (show (1 : Int) ≤ 10 ^ k from Int.pow_pos (by decide)) (show 0 ≤ M by omega)
        omega
      exact ⟨h0, by rw [hp]; (try dsimp only); omega, Int.le_refl _, h3, by (try dsimp only); omega⟩
theorem dG_bd {l : List Int} {n a : Int} {f : Int} (k : Nat) (hk : k ≤ 4) (h0 : 0 ≤ a) (h1 : a ≤ n) : 0 ≤ (dG l n k (f, a)).2 ∧ (dG l n k (f, a)).2 ≤ 9999 ∧ (dG l n k (f, a)).1.2 ≤ n ∧ a ≤ (dG l n k (f, a)).1.2 := by
  unfold dG
  (try dsimp only)
  split
  · have z := dGl_bd (l := l) (n := n) k 0 a 1 (by decide) (by decide) h0 h1
    have e : (10 : Int) ^ k ≤ 10 ^ 4 := by
      obtain e | e | e | e | e : k = 0 ∨ k = 1 ∨ k = 2 ∨ k = 3 ∨ k = 4 := by omega
      all_goals rw [e]; decide
    have e4 : (10 : Int) ^ 4 = 10000 := by decide
    (try dsimp only)
    omega
  · (try dsimp only)
    omega
theorem sl0 : slen 0 = 4 ∧ ∀ j, j < 4 → schr 0 ((j : Nat) : Int) = FIX.getD j 0 := by decide +kernel
theorem sl1 : slen 1 = 1 ∧ ∀ j, j < 1 → schr 1 ((j : Nat) : Int) = SPC.getD j 0 := by decide +kernel
theorem sl2 : slen 2 = 4 ∧ ∀ j, j < 4 → schr 2 ((j : Nat) : Int) = IFF.getD j 0 := by decide +kernel
theorem sl3 : slen 3 = 5 ∧ ∀ j, j < 5 → schr 3 ((j : Nat) : Int) = ALIVE.getD j 0 := by decide +kernel
theorem sl4 : slen 4 = 1 ∧ ∀ j, j < 1 → schr 4 ((j : Nat) : Int) = YY.getD j 0 := by decide +kernel
theorem sl5 : slen 5 = 3 ∧ ∀ j, j < 3 → schr 5 ((j : Nat) : Int) = EAR.getD j 0 := by decide +kernel
theorem sl6 : slen 6 = 4 ∧ ∀ j, j < 4 → schr 6 ((j : Nat) : Int) = IELD.getD j 0 := by decide +kernel
theorem sl7 : slen 7 = 5 ∧ ∀ j, j < 5 → schr 7 ((j : Nat) : Int) = LINE.getD j 0 := by decide +kernel
theorem sl8 : slen 8 = 2 ∧ ∀ j, j < 2 → schr 8 ((j : Nat) : Int) = PP.getD j 0 := by decide +kernel
theorem sl9 : slen 9 = 5 ∧ ∀ j, j < 5 → schr 9 ((j : Nat) : Int) = HEADS.getD j 0 := by decide +kernel
theorem sl10 : slen 10 = 4 ∧ ∀ j, j < 4 → schr 10 ((j : Nat) : Int) = STEM.getD j 0 := by decide +kernel
theorem sl11 : slen 11 = 4 ∧ ∀ j, j < 4 → schr 11 ((j : Nat) : Int) = MAN.getD j 0 := by decide +kernel
theorem sl12 : slen 12 = 5 ∧ ∀ j, j < 5 → schr 12 ((j : Nat) : Int) = REST.getD j 0 := by decide +kernel
theorem sl13 : slen 13 = 2 ∧ ∀ j, j < 2 → schr 13 ((j : Nat) : Int) = SEMI.getD j 0 := by decide +kernel
theorem l_next {A : Nat → List Int} {F : Nat → Int} (hL : LENS A) (h5 : 0 ≤ F 5 ∧ F 5 ≤ 120) (h6 : 0 ≤ F 6 ∧ F 6 ≤ F 5) : R 50 (0, L0 50 [vR 17], [], LAY A F, 0, 0) (fun r G => r = some (vI (nx (A 18) (F 5) (F 6))) ∧ G = LAY A F) := by
  have h18 : (A 18).length = 120 := hL 18 (by decide)
  refine R_s (P := True) (f' := (4, [some (vR 17)], [vI (F 6)], LAY A F, 0, 0)) hc50 2 rfl trivial ?_
  refine R_if (t := 30) hc50 rfl rfl (fun (c1 : F 6 < 0) => ?_) (fun (c1 : ¬ (F 6 < 0)) => ?_)
  · refine R_s (P := True) (f' := (31, [some (vR 17)], [vI (-1)], LAY A F, 0, 0)) hc50 1 rfl trivial ?_
    exact R_reti hc50 rfl rfl ⟨by rw [show nx (A 18) (F 5) (F 6) = (-1) by (unfold nx; split <;> omega)], rfl⟩
  · refine R_s (P := True) (f' := (15, [some (vR 17)], [vI (F 5), vI (F 6)], LAY A F, 0, 0)) hc50 4 rfl trivial ?_
    refine R_ic (t := 30) hc50 rfl rfl (fun (c2 : F 5 ≤ F 6) => ?_) (fun (c2 : ¬ (F 5 ≤ F 6)) => ?_)
    · refine R_s (P := True) (f' := (31, [some (vR 17)], [vI (-1)], LAY A F, 0, 0)) hc50 1 rfl trivial ?_
      exact R_reti hc50 rfl rfl ⟨by rw [show nx (A 18) (F 5) (F 6) = (-1) by (unfold nx; split <;> omega)], rfl⟩
    · refine R_s (P := (0 ≤ F 6 ∧ F 6 < ((A 18).length : Int)) ∧ True) (f' := (31, [some (vR 17)], [vI (rd (A 18) (F 6))], LAY A F, 0, 0)) hc50 6 rfl ⟨⟨by omega, by omega⟩, trivial⟩ ?_
      exact R_reti hc50 rfl rfl ⟨by rw [show nx (A 18) (F 5) (F 6) = rd (A 18) (F 6) by (unfold nx; split <;> omega)], rfl⟩
theorem l_word0 {A : Nat → List Int} {F : Nat → Int} (hL : LENS A) (h5 : 0 ≤ F 5 ∧ F 5 ≤ 120) (h6 : 0 ≤ F 6 ∧ F 6 ≤ F 5) : R 49 (0, L0 49 [vR 17, vS 0], [], LAY A F, 0, 0) (fun r G => ∃ b a, r = some (vI b) ∧ G = LAY A (u F 6 a) ∧ (b = 0 ∨ b = 1) ∧ wD (A 18) (F 5) FIX (0, F 6) = (1 - b, a) ∧ 0 ≤ a ∧ a ≤ F 5) := by
  have hsl := sl0
  have hnn : ∀ j, j < 4 → 0 ≤ FIX.getD j 0 := by decide
  have lp : ∀ (m i : Nat) (x : Int) (pl : Int), x = (i : Int) → 0 ≤ pl → pl ≤ F 5 → wD (A 18) (F 5) FIX (0, F 6) = wD (A 18) (F 5) (FIX.drop i) (0, pl) → i ≤ 4 → 4 + 1 ≤ i + m → R 49 (2, [some (vR 17), some (vS 0), some (vI x)], [], LAY A (u F 6 pl), 0, 0) (fun r G => ∃ b a, r = some (vI b) ∧ G = LAY A (u F 6 a) ∧ (b = 0 ∨ b = 1) ∧ wD (A 18) (F 5) FIX (0, F 6) = (1 - b, a) ∧ 0 ≤ a ∧ a ≤ F 5) := by
    intro m
    induction m with
    | zero =>
      intro i x pl ex hp0 hp1 hz hi hm
      exact absurd hm (by omega)
    | succ m ih =>
      intro i x pl ex hp0 hp1 hz hi hm
      have hci := hsl.2 i
      have hdr : i < 4 → FIX.drop i = FIX.getD i 0 :: FIX.drop (i + 1) := fun q => by
        rw [List.drop_eq_getElem_cons (show i < FIX.length from q), List.getD_eq_getElem?_getD, List.getElem?_eq_getElem (show i < FIX.length from q)]
        rfl
      rw [← ex] at hci
      refine R_s (P := True) (f' := (7, [some (vR 17), some (vS 0), some (vI x)], [vI (slen 0), vI x], LAY A (u F 6 pl), 0, 0)) hc49 3 rfl trivial ?_
      refine R_ic (t := 40) hc49 rfl rfl (fun (c1 : slen 0 ≤ x) => ?_) (fun (c1 : ¬ (slen 0 ≤ x)) => ?_)
      · refine R_s (P := True) (f' := (41, [some (vR 17), some (vS 0), some (vI x)], [vI 1], LAY A (u F 6 pl), 0, 0)) hc49 1 rfl trivial ?_
        refine R_retz hc49 rfl rfl (Or.inr rfl) ⟨1, pl, rfl, rfl, .inr rfl, ?_, hp0, hp1⟩
        rw [hz, show i = 4 by omega]
        rfl
      · refine R_s (P := True) (f' := (11, [some (vR 17), some (vS 0), some (vI x)], [vR 17], LAY A (u F 6 pl), 0, 0)) hc49 1 rfl trivial ?_
        refine R_cv hc49 rfl rfl (l_next (A := A) (F := (u F 6 pl)) hL h5 ⟨by (show 0 ≤ pl); omega, by (show pl ≤ F 5); omega⟩) (fun r G9 hp9 => ?_)
        obtain ⟨e1, rfl⟩ := hp9
        have e2 : r = some (vI (nx (A 18) (F 5) pl)) := e1
        clear e1
        subst e2
        refine R_s (f' := (14, [some (vR 17), some (vS 0), some (vI x)], [vI (nx (A 18) (F 5) pl)], LAY A (u F 6 pl), 0, 0)) hc49 0 rfl trivial ?_
        refine R_s (P := (0 ≤ x ∧ x < slen 0) ∧ True) (f' := (19, [some (vR 17), some (vS 0), some (vI x)], [vI (schr 0 x), vI (nx (A 18) (F 5) pl)], LAY A (u F 6 pl), 0, 0)) hc49 3 rfl ⟨⟨by omega, by omega⟩, trivial⟩ ?_
        refine R_ic (t := 24) hc49 rfl rfl (fun (c2 : nx (A 18) (F 5) pl = schr 0 x) => ?_) (fun (c2 : ¬ (nx (A 18) (F 5) pl = schr 0 x)) => ?_)
        · refine R_s (P := inI (pl + 1) ∧ inI (x + 1) ∧ True) (f' := (2, [some (vR 17), some (vS 0), some (vI (x + 1))], [], LAY A (u F 6 (pl + 1)), 0, 0)) hc49 8 rfl ⟨⟨by omega, by omega⟩, ⟨by omega, by omega⟩, trivial⟩ ?_
          have hc := hci (by omega)
          have hin := nx_in (l := A 18) (n := F 5) (a := pl) (by have z := hnn i (by omega); omega)
          refine ih (i + 1) _ _ (by omega) (by omega) (by omega) ?_ (by omega) (by omega)
          rw [hz, hdr (by omega)]
          simp only [wD]
          rw [eE_y (by omega)]
        · refine R_s (P := True) (f' := (23, [some (vR 17), some (vS 0), some (vI x)], [vI 0], LAY A (u F 6 pl), 0, 0)) hc49 1 rfl trivial ?_
          refine R_retz hc49 rfl rfl (Or.inl rfl) ⟨0, pl, rfl, rfl, .inl rfl, ?_, hp0, hp1⟩
          have hc := hci (by omega)
          rw [hz, hdr (by omega)]
          simp only [wD]
          rw [eE_n (by omega), wD_f]
          rfl
  refine R_s (P := True) (f' := (0, [some (vR 17), some (vS 0), none], [], LAY A (u F 6 (F 6)), 0, 0)) hc49 0 (by rw [u_self]; rfl) trivial ?_
  refine R_s (P := True) (f' := (2, [some (vR 17), some (vS 0), some (vI 0)], [], LAY A (u F 6 (F 6)), 0, 0)) hc49 2 rfl trivial ?_
  exact lp 5 0 _ _ rfl h6.1 h6.2 rfl (by omega) (by omega)
theorem l_word1 {A : Nat → List Int} {F : Nat → Int} (hL : LENS A) (h5 : 0 ≤ F 5 ∧ F 5 ≤ 120) (h6 : 0 ≤ F 6 ∧ F 6 ≤ F 5) : R 49 (0, L0 49 [vR 17, vS 1], [], LAY A F, 0, 0) (fun r G => ∃ b a, r = some (vI b) ∧ G = LAY A (u F 6 a) ∧ (b = 0 ∨ b = 1) ∧ wD (A 18) (F 5) SPC (0, F 6) = (1 - b, a) ∧ 0 ≤ a ∧ a ≤ F 5) := by
  have hsl := sl1
  have hnn : ∀ j, j < 1 → 0 ≤ SPC.getD j 0 := by decide
  have lp : ∀ (m i : Nat) (x : Int) (pl : Int), x = (i : Int) → 0 ≤ pl → pl ≤ F 5 → wD (A 18) (F 5) SPC (0, F 6) = wD (A 18) (F 5) (SPC.drop i) (0, pl) → i ≤ 1 → 1 + 1 ≤ i + m → R 49 (2, [some (vR 17), some (vS 1), some (vI x)], [], LAY A (u F 6 pl), 0, 0) (fun r G => ∃ b a, r = some (vI b) ∧ G = LAY A (u F 6 a) ∧ (b = 0 ∨ b = 1) ∧ wD (A 18) (F 5) SPC (0, F 6) = (1 - b, a) ∧ 0 ≤ a ∧ a ≤ F 5) := by
    intro m
    induction m with
    | zero =>
      intro i x pl ex hp0 hp1 hz hi hm
      exact absurd hm (by omega)
    | succ m ih =>
      intro i x pl ex hp0 hp1 hz hi hm
      have hci := hsl.2 i
      have hdr : i < 1 → SPC.drop i = SPC.getD i 0 :: SPC.drop (i + 1) := fun q => by
        rw [List.drop_eq_getElem_cons (show i < SPC.length from q), List.getD_eq_getElem?_getD, List.getElem?_eq_getElem (show i < SPC.length from q)]
        rfl
      rw [← ex] at hci
      refine R_s (P := True) (f' := (7, [some (vR 17), some (vS 1), some (vI x)], [vI (slen 1), vI x], LAY A (u F 6 pl), 0, 0)) hc49 3 rfl trivial ?_
      refine R_ic (t := 40) hc49 rfl rfl (fun (c1 : slen 1 ≤ x) => ?_) (fun (c1 : ¬ (slen 1 ≤ x)) => ?_)
      · refine R_s (P := True) (f' := (41, [some (vR 17), some (vS 1), some (vI x)], [vI 1], LAY A (u F 6 pl), 0, 0)) hc49 1 rfl trivial ?_
        refine R_retz hc49 rfl rfl (Or.inr rfl) ⟨1, pl, rfl, rfl, .inr rfl, ?_, hp0, hp1⟩
        rw [hz, show i = 1 by omega]
        rfl
      · refine R_s (P := True) (f' := (11, [some (vR 17), some (vS 1), some (vI x)], [vR 17], LAY A (u F 6 pl), 0, 0)) hc49 1 rfl trivial ?_
        refine R_cv hc49 rfl rfl (l_next (A := A) (F := (u F 6 pl)) hL h5 ⟨by (show 0 ≤ pl); omega, by (show pl ≤ F 5); omega⟩) (fun r G9 hp9 => ?_)
        obtain ⟨e1, rfl⟩ := hp9
        have e2 : r = some (vI (nx (A 18) (F 5) pl)) := e1
        clear e1
        subst e2
        refine R_s (f' := (14, [some (vR 17), some (vS 1), some (vI x)], [vI (nx (A 18) (F 5) pl)], LAY A (u F 6 pl), 0, 0)) hc49 0 rfl trivial ?_
        refine R_s (P := (0 ≤ x ∧ x < slen 1) ∧ True) (f' := (19, [some (vR 17), some (vS 1), some (vI x)], [vI (schr 1 x), vI (nx (A 18) (F 5) pl)], LAY A (u F 6 pl), 0, 0)) hc49 3 rfl ⟨⟨by omega, by omega⟩, trivial⟩ ?_
        refine R_ic (t := 24) hc49 rfl rfl (fun (c2 : nx (A 18) (F 5) pl = schr 1 x) => ?_) (fun (c2 : ¬ (nx (A 18) (F 5) pl = schr 1 x)) => ?_)
        · refine R_s (P := inI (pl + 1) ∧ inI (x + 1) ∧ True) (f' := (2, [some (vR 17), some (vS 1), some (vI (x + 1))], [], LAY A (u F 6 (pl + 1)), 0, 0)) hc49 8 rfl ⟨⟨by omega, by omega⟩, ⟨by omega, by omega⟩, trivial⟩ ?_
          have hc := hci (by omega)
          have hin := nx_in (l := A 18) (n := F 5) (a := pl) (by have z := hnn i (by omega); omega)
          refine ih (i + 1) _ _ (by omega) (by omega) (by omega) ?_ (by omega) (by omega)
          rw [hz, hdr (by omega)]
          simp only [wD]
          rw [eE_y (by omega)]
        · refine R_s (P := True) (f' := (23, [some (vR 17), some (vS 1), some (vI x)], [vI 0], LAY A (u F 6 pl), 0, 0)) hc49 1 rfl trivial ?_
          refine R_retz hc49 rfl rfl (Or.inl rfl) ⟨0, pl, rfl, rfl, .inl rfl, ?_, hp0, hp1⟩
          have hc := hci (by omega)
          rw [hz, hdr (by omega)]
          simp only [wD]
          rw [eE_n (by omega), wD_f]
          rfl
  refine R_s (P := True) (f' := (0, [some (vR 17), some (vS 1), none], [], LAY A (u F 6 (F 6)), 0, 0)) hc49 0 (by rw [u_self]; rfl) trivial ?_
  refine R_s (P := True) (f' := (2, [some (vR 17), some (vS 1), some (vI 0)], [], LAY A (u F 6 (F 6)), 0, 0)) hc49 2 rfl trivial ?_
  exact lp 2 0 _ _ rfl h6.1 h6.2 rfl (by omega) (by omega)
theorem l_word2 {A : Nat → List Int} {F : Nat → Int} (hL : LENS A) (h5 : 0 ≤ F 5 ∧ F 5 ≤ 120) (h6 : 0 ≤ F 6 ∧ F 6 ≤ F 5) : R 49 (0, L0 49 [vR 17, vS 2], [], LAY A F, 0, 0) (fun r G => ∃ b a, r = some (vI b) ∧ G = LAY A (u F 6 a) ∧ (b = 0 ∨ b = 1) ∧ wD (A 18) (F 5) IFF (0, F 6) = (1 - b, a) ∧ 0 ≤ a ∧ a ≤ F 5) := by
  have hsl := sl2
  have hnn : ∀ j, j < 4 → 0 ≤ IFF.getD j 0 := by decide
  have lp : ∀ (m i : Nat) (x : Int) (pl : Int), x = (i : Int) → 0 ≤ pl → pl ≤ F 5 → wD (A 18) (F 5) IFF (0, F 6) = wD (A 18) (F 5) (IFF.drop i) (0, pl) → i ≤ 4 → 4 + 1 ≤ i + m → R 49 (2, [some (vR 17), some (vS 2), some (vI x)], [], LAY A (u F 6 pl), 0, 0) (fun r G => ∃ b a, r = some (vI b) ∧ G = LAY A (u F 6 a) ∧ (b = 0 ∨ b = 1) ∧ wD (A 18) (F 5) IFF (0, F 6) = (1 - b, a) ∧ 0 ≤ a ∧ a ≤ F 5) := by
    intro m
    induction m with
    | zero =>
      intro i x pl ex hp0 hp1 hz hi hm
      exact absurd hm (by omega)
    | succ m ih =>
      intro i x pl ex hp0 hp1 hz hi hm
      have hci := hsl.2 i
      have hdr : i < 4 → IFF.drop i = IFF.getD i 0 :: IFF.drop (i + 1) := fun q => by
        rw [List.drop_eq_getElem_cons (show i < IFF.length from q), List.getD_eq_getElem?_getD, List.getElem?_eq_getElem (show i < IFF.length from q)]
        rfl
      rw [← ex] at hci
      refine R_s (P := True) (f' := (7, [some (vR 17), some (vS 2), some (vI x)], [vI (slen 2), vI x], LAY A (u F 6 pl), 0, 0)) hc49 3 rfl trivial ?_
      refine R_ic (t := 40) hc49 rfl rfl (fun (c1 : slen 2 ≤ x) => ?_) (fun (c1 : ¬ (slen 2 ≤ x)) => ?_)
      · refine R_s (P := True) (f' := (41, [some (vR 17), some (vS 2), some (vI x)], [vI 1], LAY A (u F 6 pl), 0, 0)) hc49 1 rfl trivial ?_
        refine R_retz hc49 rfl rfl (Or.inr rfl) ⟨1, pl, rfl, rfl, .inr rfl, ?_, hp0, hp1⟩
        rw [hz, show i = 4 by omega]
        rfl
      · refine R_s (P := True) (f' := (11, [some (vR 17), some (vS 2), some (vI x)], [vR 17], LAY A (u F 6 pl), 0, 0)) hc49 1 rfl trivial ?_
        refine R_cv hc49 rfl rfl (l_next (A := A) (F := (u F 6 pl)) hL h5 ⟨by (show 0 ≤ pl); omega, by (show pl ≤ F 5); omega⟩) (fun r G9 hp9 => ?_)
        obtain ⟨e1, rfl⟩ := hp9
        have e2 : r = some (vI (nx (A 18) (F 5) pl)) := e1
        clear e1
        subst e2
        refine R_s (f' := (14, [some (vR 17), some (vS 2), some (vI x)], [vI (nx (A 18) (F 5) pl)], LAY A (u F 6 pl), 0, 0)) hc49 0 rfl trivial ?_
        refine R_s (P := (0 ≤ x ∧ x < slen 2) ∧ True) (f' := (19, [some (vR 17), some (vS 2), some (vI x)], [vI (schr 2 x), vI (nx (A 18) (F 5) pl)], LAY A (u F 6 pl), 0, 0)) hc49 3 rfl ⟨⟨by omega, by omega⟩, trivial⟩ ?_
        refine R_ic (t := 24) hc49 rfl rfl (fun (c2 : nx (A 18) (F 5) pl = schr 2 x) => ?_) (fun (c2 : ¬ (nx (A 18) (F 5) pl = schr 2 x)) => ?_)
        · refine R_s (P := inI (pl + 1) ∧ inI (x + 1) ∧ True) (f' := (2, [some (vR 17), some (vS 2), some (vI (x + 1))], [], LAY A (u F 6 (pl + 1)), 0, 0)) hc49 8 rfl ⟨⟨by omega, by omega⟩, ⟨by omega, by omega⟩, trivial⟩ ?_
          have hc := hci (by omega)
          have hin := nx_in (l := A 18) (n := F 5) (a := pl) (by have z := hnn i (by omega); omega)
          refine ih (i + 1) _ _ (by omega) (by omega) (by omega) ?_ (by omega) (by omega)
          rw [hz, hdr (by omega)]
          simp only [wD]
          rw [eE_y (by omega)]
        · refine R_s (P := True) (f' := (23, [some (vR 17), some (vS 2), some (vI x)], [vI 0], LAY A (u F 6 pl), 0, 0)) hc49 1 rfl trivial ?_
          refine R_retz hc49 rfl rfl (Or.inl rfl) ⟨0, pl, rfl, rfl, .inl rfl, ?_, hp0, hp1⟩
          have hc := hci (by omega)
          rw [hz, hdr (by omega)]
          simp only [wD]
          rw [eE_n (by omega), wD_f]
          rfl
  refine R_s (P := True) (f' := (0, [some (vR 17), some (vS 2), none], [], LAY A (u F 6 (F 6)), 0, 0)) hc49 0 (by rw [u_self]; rfl) trivial ?_
  refine R_s (P := True) (f' := (2, [some (vR 17), some (vS 2), some (vI 0)], [], LAY A (u F 6 (F 6)), 0, 0)) hc49 2 rfl trivial ?_
  exact lp 5 0 _ _ rfl h6.1 h6.2 rfl (by omega) (by omega)
theorem l_word3 {A : Nat → List Int} {F : Nat → Int} (hL : LENS A) (h5 : 0 ≤ F 5 ∧ F 5 ≤ 120) (h6 : 0 ≤ F 6 ∧ F 6 ≤ F 5) : R 49 (0, L0 49 [vR 17, vS 3], [], LAY A F, 0, 0) (fun r G => ∃ b a, r = some (vI b) ∧ G = LAY A (u F 6 a) ∧ (b = 0 ∨ b = 1) ∧ wD (A 18) (F 5) ALIVE (0, F 6) = (1 - b, a) ∧ 0 ≤ a ∧ a ≤ F 5) := by
  have hsl := sl3
  have hnn : ∀ j, j < 5 → 0 ≤ ALIVE.getD j 0 := by decide
  have lp : ∀ (m i : Nat) (x : Int) (pl : Int), x = (i : Int) → 0 ≤ pl → pl ≤ F 5 → wD (A 18) (F 5) ALIVE (0, F 6) = wD (A 18) (F 5) (ALIVE.drop i) (0, pl) → i ≤ 5 → 5 + 1 ≤ i + m → R 49 (2, [some (vR 17), some (vS 3), some (vI x)], [], LAY A (u F 6 pl), 0, 0) (fun r G => ∃ b a, r = some (vI b) ∧ G = LAY A (u F 6 a) ∧ (b = 0 ∨ b = 1) ∧ wD (A 18) (F 5) ALIVE (0, F 6) = (1 - b, a) ∧ 0 ≤ a ∧ a ≤ F 5) := by
    intro m
    induction m with
    | zero =>
      intro i x pl ex hp0 hp1 hz hi hm
      exact absurd hm (by omega)
    | succ m ih =>
      intro i x pl ex hp0 hp1 hz hi hm
      have hci := hsl.2 i
      have hdr : i < 5 → ALIVE.drop i = ALIVE.getD i 0 :: ALIVE.drop (i + 1) := fun q => by
        rw [List.drop_eq_getElem_cons (show i < ALIVE.length from q), List.getD_eq_getElem?_getD, List.getElem?_eq_getElem (show i < ALIVE.length from q)]
        rfl
      rw [← ex] at hci
      refine R_s (P := True) (f' := (7, [some (vR 17), some (vS 3), some (vI x)], [vI (slen 3), vI x], LAY A (u F 6 pl), 0, 0)) hc49 3 rfl trivial ?_
      refine R_ic (t := 40) hc49 rfl rfl (fun (c1 : slen 3 ≤ x) => ?_) (fun (c1 : ¬ (slen 3 ≤ x)) => ?_)
      · refine R_s (P := True) (f' := (41, [some (vR 17), some (vS 3), some (vI x)], [vI 1], LAY A (u F 6 pl), 0, 0)) hc49 1 rfl trivial ?_
        refine R_retz hc49 rfl rfl (Or.inr rfl) ⟨1, pl, rfl, rfl, .inr rfl, ?_, hp0, hp1⟩
        rw [hz, show i = 5 by omega]
        rfl
      · refine R_s (P := True) (f' := (11, [some (vR 17), some (vS 3), some (vI x)], [vR 17], LAY A (u F 6 pl), 0, 0)) hc49 1 rfl trivial ?_
        refine R_cv hc49 rfl rfl (l_next (A := A) (F := (u F 6 pl)) hL h5 ⟨by (show 0 ≤ pl); omega, by (show pl ≤ F 5); omega⟩) (fun r G9 hp9 => ?_)
        obtain ⟨e1, rfl⟩ := hp9
        have e2 : r = some (vI (nx (A 18) (F 5) pl)) := e1
        clear e1
        subst e2
        refine R_s (f' := (14, [some (vR 17), some (vS 3), some (vI x)], [vI (nx (A 18) (F 5) pl)], LAY A (u F 6 pl), 0, 0)) hc49 0 rfl trivial ?_
        refine R_s (P := (0 ≤ x ∧ x < slen 3) ∧ True) (f' := (19, [some (vR 17), some (vS 3), some (vI x)], [vI (schr 3 x), vI (nx (A 18) (F 5) pl)], LAY A (u F 6 pl), 0, 0)) hc49 3 rfl ⟨⟨by omega, by omega⟩, trivial⟩ ?_
        refine R_ic (t := 24) hc49 rfl rfl (fun (c2 : nx (A 18) (F 5) pl = schr 3 x) => ?_) (fun (c2 : ¬ (nx (A 18) (F 5) pl = schr 3 x)) => ?_)
        · refine R_s (P := inI (pl + 1) ∧ inI (x + 1) ∧ True) (f' := (2, [some (vR 17), some (vS 3), some (vI (x + 1))], [], LAY A (u F 6 (pl + 1)), 0, 0)) hc49 8 rfl ⟨⟨by omega, by omega⟩, ⟨by omega, by omega⟩, trivial⟩ ?_
          have hc := hci (by omega)
          have hin := nx_in (l := A 18) (n := F 5) (a := pl) (by have z := hnn i (by omega); omega)
          refine ih (i + 1) _ _ (by omega) (by omega) (by omega) ?_ (by omega) (by omega)
          rw [hz, hdr (by omega)]
          simp only [wD]
          rw [eE_y (by omega)]
        · refine R_s (P := True) (f' := (23, [some (vR 17), some (vS 3), some (vI x)], [vI 0], LAY A (u F 6 pl), 0, 0)) hc49 1 rfl trivial ?_
          refine R_retz hc49 rfl rfl (Or.inl rfl) ⟨0, pl, rfl, rfl, .inl rfl, ?_, hp0, hp1⟩
          have hc := hci (by omega)
          rw [hz, hdr (by omega)]
          simp only [wD]
          rw [eE_n (by omega), wD_f]
          rfl
  refine R_s (P := True) (f' := (0, [some (vR 17), some (vS 3), none], [], LAY A (u F 6 (F 6)), 0, 0)) hc49 0 (by rw [u_self]; rfl) trivial ?_
  refine R_s (P := True) (f' := (2, [some (vR 17), some (vS 3), some (vI 0)], [], LAY A (u F 6 (F 6)), 0, 0)) hc49 2 rfl trivial ?_
  exact lp 6 0 _ _ rfl h6.1 h6.2 rfl (by omega) (by omega)
theorem l_word4 {A : Nat → List Int} {F : Nat → Int} (hL : LENS A) (h5 : 0 ≤ F 5 ∧ F 5 ≤ 120) (h6 : 0 ≤ F 6 ∧ F 6 ≤ F 5) : R 49 (0, L0 49 [vR 17, vS 4], [], LAY A F, 0, 0) (fun r G => ∃ b a, r = some (vI b) ∧ G = LAY A (u F 6 a) ∧ (b = 0 ∨ b = 1) ∧ wD (A 18) (F 5) YY (0, F 6) = (1 - b, a) ∧ 0 ≤ a ∧ a ≤ F 5) := by
  have hsl := sl4
  have hnn : ∀ j, j < 1 → 0 ≤ YY.getD j 0 := by decide
  have lp : ∀ (m i : Nat) (x : Int) (pl : Int), x = (i : Int) → 0 ≤ pl → pl ≤ F 5 → wD (A 18) (F 5) YY (0, F 6) = wD (A 18) (F 5) (YY.drop i) (0, pl) → i ≤ 1 → 1 + 1 ≤ i + m → R 49 (2, [some (vR 17), some (vS 4), some (vI x)], [], LAY A (u F 6 pl), 0, 0) (fun r G => ∃ b a, r = some (vI b) ∧ G = LAY A (u F 6 a) ∧ (b = 0 ∨ b = 1) ∧ wD (A 18) (F 5) YY (0, F 6) = (1 - b, a) ∧ 0 ≤ a ∧ a ≤ F 5) := by
    intro m
    induction m with
    | zero =>
      intro i x pl ex hp0 hp1 hz hi hm
      exact absurd hm (by omega)
    | succ m ih =>
      intro i x pl ex hp0 hp1 hz hi hm
      have hci := hsl.2 i
      have hdr : i < 1 → YY.drop i = YY.getD i 0 :: YY.drop (i + 1) := fun q => by
        rw [List.drop_eq_getElem_cons (show i < YY.length from q), List.getD_eq_getElem?_getD, List.getElem?_eq_getElem (show i < YY.length from q)]
        rfl
      rw [← ex] at hci
      refine R_s (P := True) (f' := (7, [some (vR 17), some (vS 4), some (vI x)], [vI (slen 4), vI x], LAY A (u F 6 pl), 0, 0)) hc49 3 rfl trivial ?_
      refine R_ic (t := 40) hc49 rfl rfl (fun (c1 : slen 4 ≤ x) => ?_) (fun (c1 : ¬ (slen 4 ≤ x)) => ?_)
      · refine R_s (P := True) (f' := (41, [some (vR 17), some (vS 4), some (vI x)], [vI 1], LAY A (u F 6 pl), 0, 0)) hc49 1 rfl trivial ?_
        refine R_retz hc49 rfl rfl (Or.inr rfl) ⟨1, pl, rfl, rfl, .inr rfl, ?_, hp0, hp1⟩
        rw [hz, show i = 1 by omega]
        rfl
      · refine R_s (P := True) (f' := (11, [some (vR 17), some (vS 4), some (vI x)], [vR 17], LAY A (u F 6 pl), 0, 0)) hc49 1 rfl trivial ?_
        refine R_cv hc49 rfl rfl (l_next (A := A) (F := (u F 6 pl)) hL h5 ⟨by (show 0 ≤ pl); omega, by (show pl ≤ F 5); omega⟩) (fun r G9 hp9 => ?_)
        obtain ⟨e1, rfl⟩ := hp9
        have e2 : r = some (vI (nx (A 18) (F 5) pl)) := e1
        clear e1
        subst e2
        refine R_s (f' := (14, [some (vR 17), some (vS 4), some (vI x)], [vI (nx (A 18) (F 5) pl)], LAY A (u F 6 pl), 0, 0)) hc49 0 rfl trivial ?_
        refine R_s (P := (0 ≤ x ∧ x < slen 4) ∧ True) (f' := (19, [some (vR 17), some (vS 4), some (vI x)], [vI (schr 4 x), vI (nx (A 18) (F 5) pl)], LAY A (u F 6 pl), 0, 0)) hc49 3 rfl ⟨⟨by omega, by omega⟩, trivial⟩ ?_
        refine R_ic (t := 24) hc49 rfl rfl (fun (c2 : nx (A 18) (F 5) pl = schr 4 x) => ?_) (fun (c2 : ¬ (nx (A 18) (F 5) pl = schr 4 x)) => ?_)
        · refine R_s (P := inI (pl + 1) ∧ inI (x + 1) ∧ True) (f' := (2, [some (vR 17), some (vS 4), some (vI (x + 1))], [], LAY A (u F 6 (pl + 1)), 0, 0)) hc49 8 rfl ⟨⟨by omega, by omega⟩, ⟨by omega, by omega⟩, trivial⟩ ?_
          have hc := hci (by omega)
          have hin := nx_in (l := A 18) (n := F 5) (a := pl) (by have z := hnn i (by omega); omega)
          refine ih (i + 1) _ _ (by omega) (by omega) (by omega) ?_ (by omega) (by omega)
          rw [hz, hdr (by omega)]
          simp only [wD]
          rw [eE_y (by omega)]
        · refine R_s (P := True) (f' := (23, [some (vR 17), some (vS 4), some (vI x)], [vI 0], LAY A (u F 6 pl), 0, 0)) hc49 1 rfl trivial ?_
          refine R_retz hc49 rfl rfl (Or.inl rfl) ⟨0, pl, rfl, rfl, .inl rfl, ?_, hp0, hp1⟩
          have hc := hci (by omega)
          rw [hz, hdr (by omega)]
          simp only [wD]
          rw [eE_n (by omega), wD_f]
          rfl
  refine R_s (P := True) (f' := (0, [some (vR 17), some (vS 4), none], [], LAY A (u F 6 (F 6)), 0, 0)) hc49 0 (by rw [u_self]; rfl) trivial ?_
  refine R_s (P := True) (f' := (2, [some (vR 17), some (vS 4), some (vI 0)], [], LAY A (u F 6 (F 6)), 0, 0)) hc49 2 rfl trivial ?_
  exact lp 2 0 _ _ rfl h6.1 h6.2 rfl (by omega) (by omega)
theorem l_word5 {A : Nat → List Int} {F : Nat → Int} (hL : LENS A) (h5 : 0 ≤ F 5 ∧ F 5 ≤ 120) (h6 : 0 ≤ F 6 ∧ F 6 ≤ F 5) : R 49 (0, L0 49 [vR 17, vS 5], [], LAY A F, 0, 0) (fun r G => ∃ b a, r = some (vI b) ∧ G = LAY A (u F 6 a) ∧ (b = 0 ∨ b = 1) ∧ wD (A 18) (F 5) EAR (0, F 6) = (1 - b, a) ∧ 0 ≤ a ∧ a ≤ F 5) := by
  have hsl := sl5
  have hnn : ∀ j, j < 3 → 0 ≤ EAR.getD j 0 := by decide
  have lp : ∀ (m i : Nat) (x : Int) (pl : Int), x = (i : Int) → 0 ≤ pl → pl ≤ F 5 → wD (A 18) (F 5) EAR (0, F 6) = wD (A 18) (F 5) (EAR.drop i) (0, pl) → i ≤ 3 → 3 + 1 ≤ i + m → R 49 (2, [some (vR 17), some (vS 5), some (vI x)], [], LAY A (u F 6 pl), 0, 0) (fun r G => ∃ b a, r = some (vI b) ∧ G = LAY A (u F 6 a) ∧ (b = 0 ∨ b = 1) ∧ wD (A 18) (F 5) EAR (0, F 6) = (1 - b, a) ∧ 0 ≤ a ∧ a ≤ F 5) := by
    intro m
    induction m with
    | zero =>
      intro i x pl ex hp0 hp1 hz hi hm
      exact absurd hm (by omega)
    | succ m ih =>
      intro i x pl ex hp0 hp1 hz hi hm
      have hci := hsl.2 i
      have hdr : i < 3 → EAR.drop i = EAR.getD i 0 :: EAR.drop (i + 1) := fun q => by
        rw [List.drop_eq_getElem_cons (show i < EAR.length from q), List.getD_eq_getElem?_getD, List.getElem?_eq_getElem (show i < EAR.length from q)]
        rfl
      rw [← ex] at hci
      refine R_s (P := True) (f' := (7, [some (vR 17), some (vS 5), some (vI x)], [vI (slen 5), vI x], LAY A (u F 6 pl), 0, 0)) hc49 3 rfl trivial ?_
      refine R_ic (t := 40) hc49 rfl rfl (fun (c1 : slen 5 ≤ x) => ?_) (fun (c1 : ¬ (slen 5 ≤ x)) => ?_)
      · refine R_s (P := True) (f' := (41, [some (vR 17), some (vS 5), some (vI x)], [vI 1], LAY A (u F 6 pl), 0, 0)) hc49 1 rfl trivial ?_
        refine R_retz hc49 rfl rfl (Or.inr rfl) ⟨1, pl, rfl, rfl, .inr rfl, ?_, hp0, hp1⟩
        rw [hz, show i = 3 by omega]
        rfl
      · refine R_s (P := True) (f' := (11, [some (vR 17), some (vS 5), some (vI x)], [vR 17], LAY A (u F 6 pl), 0, 0)) hc49 1 rfl trivial ?_
        refine R_cv hc49 rfl rfl (l_next (A := A) (F := (u F 6 pl)) hL h5 ⟨by (show 0 ≤ pl); omega, by (show pl ≤ F 5); omega⟩) (fun r G9 hp9 => ?_)
        obtain ⟨e1, rfl⟩ := hp9
        have e2 : r = some (vI (nx (A 18) (F 5) pl)) := e1
        clear e1
        subst e2
        refine R_s (f' := (14, [some (vR 17), some (vS 5), some (vI x)], [vI (nx (A 18) (F 5) pl)], LAY A (u F 6 pl), 0, 0)) hc49 0 rfl trivial ?_
        refine R_s (P := (0 ≤ x ∧ x < slen 5) ∧ True) (f' := (19, [some (vR 17), some (vS 5), some (vI x)], [vI (schr 5 x), vI (nx (A 18) (F 5) pl)], LAY A (u F 6 pl), 0, 0)) hc49 3 rfl ⟨⟨by omega, by omega⟩, trivial⟩ ?_
        refine R_ic (t := 24) hc49 rfl rfl (fun (c2 : nx (A 18) (F 5) pl = schr 5 x) => ?_) (fun (c2 : ¬ (nx (A 18) (F 5) pl = schr 5 x)) => ?_)
        · refine R_s (P := inI (pl + 1) ∧ inI (x + 1) ∧ True) (f' := (2, [some (vR 17), some (vS 5), some (vI (x + 1))], [], LAY A (u F 6 (pl + 1)), 0, 0)) hc49 8 rfl ⟨⟨by omega, by omega⟩, ⟨by omega, by omega⟩, trivial⟩ ?_
          have hc := hci (by omega)
          have hin := nx_in (l := A 18) (n := F 5) (a := pl) (by have z := hnn i (by omega); omega)
          refine ih (i + 1) _ _ (by omega) (by omega) (by omega) ?_ (by omega) (by omega)
          rw [hz, hdr (by omega)]
          simp only [wD]
          rw [eE_y (by omega)]
        · refine R_s (P := True) (f' := (23, [some (vR 17), some (vS 5), some (vI x)], [vI 0], LAY A (u F 6 pl), 0, 0)) hc49 1 rfl trivial ?_
          refine R_retz hc49 rfl rfl (Or.inl rfl) ⟨0, pl, rfl, rfl, .inl rfl, ?_, hp0, hp1⟩
          have hc := hci (by omega)
          rw [hz, hdr (by omega)]
          simp only [wD]
          rw [eE_n (by omega), wD_f]
          rfl
  refine R_s (P := True) (f' := (0, [some (vR 17), some (vS 5), none], [], LAY A (u F 6 (F 6)), 0, 0)) hc49 0 (by rw [u_self]; rfl) trivial ?_
  refine R_s (P := True) (f' := (2, [some (vR 17), some (vS 5), some (vI 0)], [], LAY A (u F 6 (F 6)), 0, 0)) hc49 2 rfl trivial ?_
  exact lp 4 0 _ _ rfl h6.1 h6.2 rfl (by omega) (by omega)
theorem l_word6 {A : Nat → List Int} {F : Nat → Int} (hL : LENS A) (h5 : 0 ≤ F 5 ∧ F 5 ≤ 120) (h6 : 0 ≤ F 6 ∧ F 6 ≤ F 5) : R 49 (0, L0 49 [vR 17, vS 6], [], LAY A F, 0, 0) (fun r G => ∃ b a, r = some (vI b) ∧ G = LAY A (u F 6 a) ∧ (b = 0 ∨ b = 1) ∧ wD (A 18) (F 5) IELD (0, F 6) = (1 - b, a) ∧ 0 ≤ a ∧ a ≤ F 5) := by
  have hsl := sl6
  have hnn : ∀ j, j < 4 → 0 ≤ IELD.getD j 0 := by decide
  have lp : ∀ (m i : Nat) (x : Int) (pl : Int), x = (i : Int) → 0 ≤ pl → pl ≤ F 5 → wD (A 18) (F 5) IELD (0, F 6) = wD (A 18) (F 5) (IELD.drop i) (0, pl) → i ≤ 4 → 4 + 1 ≤ i + m → R 49 (2, [some (vR 17), some (vS 6), some (vI x)], [], LAY A (u F 6 pl), 0, 0) (fun r G => ∃ b a, r = some (vI b) ∧ G = LAY A (u F 6 a) ∧ (b = 0 ∨ b = 1) ∧ wD (A 18) (F 5) IELD (0, F 6) = (1 - b, a) ∧ 0 ≤ a ∧ a ≤ F 5) := by
    intro m
    induction m with
    | zero =>
      intro i x pl ex hp0 hp1 hz hi hm
      exact absurd hm (by omega)
    | succ m ih =>
      intro i x pl ex hp0 hp1 hz hi hm
      have hci := hsl.2 i
      have hdr : i < 4 → IELD.drop i = IELD.getD i 0 :: IELD.drop (i + 1) := fun q => by
        rw [List.drop_eq_getElem_cons (show i < IELD.length from q), List.getD_eq_getElem?_getD, List.getElem?_eq_getElem (show i < IELD.length from q)]
        rfl
      rw [← ex] at hci
      refine R_s (P := True) (f' := (7, [some (vR 17), some (vS 6), some (vI x)], [vI (slen 6), vI x], LAY A (u F 6 pl), 0, 0)) hc49 3 rfl trivial ?_
      refine R_ic (t := 40) hc49 rfl rfl (fun (c1 : slen 6 ≤ x) => ?_) (fun (c1 : ¬ (slen 6 ≤ x)) => ?_)
      · refine R_s (P := True) (f' := (41, [some (vR 17), some (vS 6), some (vI x)], [vI 1], LAY A (u F 6 pl), 0, 0)) hc49 1 rfl trivial ?_
        refine R_retz hc49 rfl rfl (Or.inr rfl) ⟨1, pl, rfl, rfl, .inr rfl, ?_, hp0, hp1⟩
        rw [hz, show i = 4 by omega]
        rfl
      · refine R_s (P := True) (f' := (11, [some (vR 17), some (vS 6), some (vI x)], [vR 17], LAY A (u F 6 pl), 0, 0)) hc49 1 rfl trivial ?_
        refine R_cv hc49 rfl rfl (l_next (A := A) (F := (u F 6 pl)) hL h5 ⟨by (show 0 ≤ pl); omega, by (show pl ≤ F 5); omega⟩) (fun r G9 hp9 => ?_)
        obtain ⟨e1, rfl⟩ := hp9
        have e2 : r = some (vI (nx (A 18) (F 5) pl)) := e1
        clear e1
        subst e2
        refine R_s (f' := (14, [some (vR 17), some (vS 6), some (vI x)], [vI (nx (A 18) (F 5) pl)], LAY A (u F 6 pl), 0, 0)) hc49 0 rfl trivial ?_
        refine R_s (P := (0 ≤ x ∧ x < slen 6) ∧ True) (f' := (19, [some (vR 17), some (vS 6), some (vI x)], [vI (schr 6 x), vI (nx (A 18) (F 5) pl)], LAY A (u F 6 pl), 0, 0)) hc49 3 rfl ⟨⟨by omega, by omega⟩, trivial⟩ ?_
        refine R_ic (t := 24) hc49 rfl rfl (fun (c2 : nx (A 18) (F 5) pl = schr 6 x) => ?_) (fun (c2 : ¬ (nx (A 18) (F 5) pl = schr 6 x)) => ?_)
        · refine R_s (P := inI (pl + 1) ∧ inI (x + 1) ∧ True) (f' := (2, [some (vR 17), some (vS 6), some (vI (x + 1))], [], LAY A (u F 6 (pl + 1)), 0, 0)) hc49 8 rfl ⟨⟨by omega, by omega⟩, ⟨by omega, by omega⟩, trivial⟩ ?_
          have hc := hci (by omega)
          have hin := nx_in (l := A 18) (n := F 5) (a := pl) (by have z := hnn i (by omega); omega)
          refine ih (i + 1) _ _ (by omega) (by omega) (by omega) ?_ (by omega) (by omega)
          rw [hz, hdr (by omega)]
          simp only [wD]
          rw [eE_y (by omega)]
        · refine R_s (P := True) (f' := (23, [some (vR 17), some (vS 6), some (vI x)], [vI 0], LAY A (u F 6 pl), 0, 0)) hc49 1 rfl trivial ?_
          refine R_retz hc49 rfl rfl (Or.inl rfl) ⟨0, pl, rfl, rfl, .inl rfl, ?_, hp0, hp1⟩
          have hc := hci (by omega)
          rw [hz, hdr (by omega)]
          simp only [wD]
          rw [eE_n (by omega), wD_f]
          rfl
  refine R_s (P := True) (f' := (0, [some (vR 17), some (vS 6), none], [], LAY A (u F 6 (F 6)), 0, 0)) hc49 0 (by rw [u_self]; rfl) trivial ?_
  refine R_s (P := True) (f' := (2, [some (vR 17), some (vS 6), some (vI 0)], [], LAY A (u F 6 (F 6)), 0, 0)) hc49 2 rfl trivial ?_
  exact lp 5 0 _ _ rfl h6.1 h6.2 rfl (by omega) (by omega)
theorem l_word7 {A : Nat → List Int} {F : Nat → Int} (hL : LENS A) (h5 : 0 ≤ F 5 ∧ F 5 ≤ 120) (h6 : 0 ≤ F 6 ∧ F 6 ≤ F 5) : R 49 (0, L0 49 [vR 17, vS 7], [], LAY A F, 0, 0) (fun r G => ∃ b a, r = some (vI b) ∧ G = LAY A (u F 6 a) ∧ (b = 0 ∨ b = 1) ∧ wD (A 18) (F 5) LINE (0, F 6) = (1 - b, a) ∧ 0 ≤ a ∧ a ≤ F 5) := by
  have hsl := sl7
  have hnn : ∀ j, j < 5 → 0 ≤ LINE.getD j 0 := by decide
  have lp : ∀ (m i : Nat) (x : Int) (pl : Int), x = (i : Int) → 0 ≤ pl → pl ≤ F 5 → wD (A 18) (F 5) LINE (0, F 6) = wD (A 18) (F 5) (LINE.drop i) (0, pl) → i ≤ 5 → 5 + 1 ≤ i + m → R 49 (2, [some (vR 17), some (vS 7), some (vI x)], [], LAY A (u F 6 pl), 0, 0) (fun r G => ∃ b a, r = some (vI b) ∧ G = LAY A (u F 6 a) ∧ (b = 0 ∨ b = 1) ∧ wD (A 18) (F 5) LINE (0, F 6) = (1 - b, a) ∧ 0 ≤ a ∧ a ≤ F 5) := by
    intro m
    induction m with
    | zero =>
      intro i x pl ex hp0 hp1 hz hi hm
      exact absurd hm (by omega)
    | succ m ih =>
      intro i x pl ex hp0 hp1 hz hi hm
      have hci := hsl.2 i
      have hdr : i < 5 → LINE.drop i = LINE.getD i 0 :: LINE.drop (i + 1) := fun q => by
        rw [List.drop_eq_getElem_cons (show i < LINE.length from q), List.getD_eq_getElem?_getD, List.getElem?_eq_getElem (show i < LINE.length from q)]
        rfl
      rw [← ex] at hci
      refine R_s (P := True) (f' := (7, [some (vR 17), some (vS 7), some (vI x)], [vI (slen 7), vI x], LAY A (u F 6 pl), 0, 0)) hc49 3 rfl trivial ?_
      refine R_ic (t := 40) hc49 rfl rfl (fun (c1 : slen 7 ≤ x) => ?_) (fun (c1 : ¬ (slen 7 ≤ x)) => ?_)
      · refine R_s (P := True) (f' := (41, [some (vR 17), some (vS 7), some (vI x)], [vI 1], LAY A (u F 6 pl), 0, 0)) hc49 1 rfl trivial ?_
        refine R_retz hc49 rfl rfl (Or.inr rfl) ⟨1, pl, rfl, rfl, .inr rfl, ?_, hp0, hp1⟩
        rw [hz, show i = 5 by omega]
        rfl
      · refine R_s (P := True) (f' := (11, [some (vR 17), some (vS 7), some (vI x)], [vR 17], LAY A (u F 6 pl), 0, 0)) hc49 1 rfl trivial ?_
        refine R_cv hc49 rfl rfl (l_next (A := A) (F := (u F 6 pl)) hL h5 ⟨by (show 0 ≤ pl); omega, by (show pl ≤ F 5); omega⟩) (fun r G9 hp9 => ?_)
        obtain ⟨e1, rfl⟩ := hp9
        have e2 : r = some (vI (nx (A 18) (F 5) pl)) := e1
        clear e1
        subst e2
        refine R_s (f' := (14, [some (vR 17), some (vS 7), some (vI x)], [vI (nx (A 18) (F 5) pl)], LAY A (u F 6 pl), 0, 0)) hc49 0 rfl trivial ?_
        refine R_s (P := (0 ≤ x ∧ x < slen 7) ∧ True) (f' := (19, [some (vR 17), some (vS 7), some (vI x)], [vI (schr 7 x), vI (nx (A 18) (F 5) pl)], LAY A (u F 6 pl), 0, 0)) hc49 3 rfl ⟨⟨by omega, by omega⟩, trivial⟩ ?_
        refine R_ic (t := 24) hc49 rfl rfl (fun (c2 : nx (A 18) (F 5) pl = schr 7 x) => ?_) (fun (c2 : ¬ (nx (A 18) (F 5) pl = schr 7 x)) => ?_)
        · refine R_s (P := inI (pl + 1) ∧ inI (x + 1) ∧ True) (f' := (2, [some (vR 17), some (vS 7), some (vI (x + 1))], [], LAY A (u F 6 (pl + 1)), 0, 0)) hc49 8 rfl ⟨⟨by omega, by omega⟩, ⟨by omega, by omega⟩, trivial⟩ ?_
          have hc := hci (by omega)
          have hin := nx_in (l := A 18) (n := F 5) (a := pl) (by have z := hnn i (by omega); omega)
          refine ih (i + 1) _ _ (by omega) (by omega) (by omega) ?_ (by omega) (by omega)
          rw [hz, hdr (by omega)]
          simp only [wD]
          rw [eE_y (by omega)]
        · refine R_s (P := True) (f' := (23, [some (vR 17), some (vS 7), some (vI x)], [vI 0], LAY A (u F 6 pl), 0, 0)) hc49 1 rfl trivial ?_
          refine R_retz hc49 rfl rfl (Or.inl rfl) ⟨0, pl, rfl, rfl, .inl rfl, ?_, hp0, hp1⟩
          have hc := hci (by omega)
          rw [hz, hdr (by omega)]
          simp only [wD]
          rw [eE_n (by omega), wD_f]
          rfl
  refine R_s (P := True) (f' := (0, [some (vR 17), some (vS 7), none], [], LAY A (u F 6 (F 6)), 0, 0)) hc49 0 (by rw [u_self]; rfl) trivial ?_
  refine R_s (P := True) (f' := (2, [some (vR 17), some (vS 7), some (vI 0)], [], LAY A (u F 6 (F 6)), 0, 0)) hc49 2 rfl trivial ?_
  exact lp 6 0 _ _ rfl h6.1 h6.2 rfl (by omega) (by omega)
theorem l_word8 {A : Nat → List Int} {F : Nat → Int} (hL : LENS A) (h5 : 0 ≤ F 5 ∧ F 5 ≤ 120) (h6 : 0 ≤ F 6 ∧ F 6 ≤ F 5) : R 49 (0, L0 49 [vR 17, vS 8], [], LAY A F, 0, 0) (fun r G => ∃ b a, r = some (vI b) ∧ G = LAY A (u F 6 a) ∧ (b = 0 ∨ b = 1) ∧ wD (A 18) (F 5) PP (0, F 6) = (1 - b, a) ∧ 0 ≤ a ∧ a ≤ F 5) := by
  have hsl := sl8
  have hnn : ∀ j, j < 2 → 0 ≤ PP.getD j 0 := by decide
  have lp : ∀ (m i : Nat) (x : Int) (pl : Int), x = (i : Int) → 0 ≤ pl → pl ≤ F 5 → wD (A 18) (F 5) PP (0, F 6) = wD (A 18) (F 5) (PP.drop i) (0, pl) → i ≤ 2 → 2 + 1 ≤ i + m → R 49 (2, [some (vR 17), some (vS 8), some (vI x)], [], LAY A (u F 6 pl), 0, 0) (fun r G => ∃ b a, r = some (vI b) ∧ G = LAY A (u F 6 a) ∧ (b = 0 ∨ b = 1) ∧ wD (A 18) (F 5) PP (0, F 6) = (1 - b, a) ∧ 0 ≤ a ∧ a ≤ F 5) := by
    intro m
    induction m with
    | zero =>
      intro i x pl ex hp0 hp1 hz hi hm
      exact absurd hm (by omega)
    | succ m ih =>
      intro i x pl ex hp0 hp1 hz hi hm
      have hci := hsl.2 i
      have hdr : i < 2 → PP.drop i = PP.getD i 0 :: PP.drop (i + 1) := fun q => by
        rw [List.drop_eq_getElem_cons (show i < PP.length from q), List.getD_eq_getElem?_getD, List.getElem?_eq_getElem (show i < PP.length from q)]
        rfl
      rw [← ex] at hci
      refine R_s (P := True) (f' := (7, [some (vR 17), some (vS 8), some (vI x)], [vI (slen 8), vI x], LAY A (u F 6 pl), 0, 0)) hc49 3 rfl trivial ?_
      refine R_ic (t := 40) hc49 rfl rfl (fun (c1 : slen 8 ≤ x) => ?_) (fun (c1 : ¬ (slen 8 ≤ x)) => ?_)
      · refine R_s (P := True) (f' := (41, [some (vR 17), some (vS 8), some (vI x)], [vI 1], LAY A (u F 6 pl), 0, 0)) hc49 1 rfl trivial ?_
        refine R_retz hc49 rfl rfl (Or.inr rfl) ⟨1, pl, rfl, rfl, .inr rfl, ?_, hp0, hp1⟩
        rw [hz, show i = 2 by omega]
        rfl
      · refine R_s (P := True) (f' := (11, [some (vR 17), some (vS 8), some (vI x)], [vR 17], LAY A (u F 6 pl), 0, 0)) hc49 1 rfl trivial ?_
        refine R_cv hc49 rfl rfl (l_next (A := A) (F := (u F 6 pl)) hL h5 ⟨by (show 0 ≤ pl); omega, by (show pl ≤ F 5); omega⟩) (fun r G9 hp9 => ?_)
        obtain ⟨e1, rfl⟩ := hp9
        have e2 : r = some (vI (nx (A 18) (F 5) pl)) := e1
        clear e1
        subst e2
        refine R_s (f' := (14, [some (vR 17), some (vS 8), some (vI x)], [vI (nx (A 18) (F 5) pl)], LAY A (u F 6 pl), 0, 0)) hc49 0 rfl trivial ?_
        refine R_s (P := (0 ≤ x ∧ x < slen 8) ∧ True) (f' := (19, [some (vR 17), some (vS 8), some (vI x)], [vI (schr 8 x), vI (nx (A 18) (F 5) pl)], LAY A (u F 6 pl), 0, 0)) hc49 3 rfl ⟨⟨by omega, by omega⟩, trivial⟩ ?_
        refine R_ic (t := 24) hc49 rfl rfl (fun (c2 : nx (A 18) (F 5) pl = schr 8 x) => ?_) (fun (c2 : ¬ (nx (A 18) (F 5) pl = schr 8 x)) => ?_)
        · refine R_s (P := inI (pl + 1) ∧ inI (x + 1) ∧ True) (f' := (2, [some (vR 17), some (vS 8), some (vI (x + 1))], [], LAY A (u F 6 (pl + 1)), 0, 0)) hc49 8 rfl ⟨⟨by omega, by omega⟩, ⟨by omega, by omega⟩, trivial⟩ ?_
          have hc := hci (by omega)
          have hin := nx_in (l := A 18) (n := F 5) (a := pl) (by have z := hnn i (by omega); omega)
          refine ih (i + 1) _ _ (by omega) (by omega) (by omega) ?_ (by omega) (by omega)
          rw [hz, hdr (by omega)]
          simp only [wD]
          rw [eE_y (by omega)]
        · refine R_s (P := True) (f' := (23, [some (vR 17), some (vS 8), some (vI x)], [vI 0], LAY A (u F 6 pl), 0, 0)) hc49 1 rfl trivial ?_
          refine R_retz hc49 rfl rfl (Or.inl rfl) ⟨0, pl, rfl, rfl, .inl rfl, ?_, hp0, hp1⟩
          have hc := hci (by omega)
          rw [hz, hdr (by omega)]
          simp only [wD]
          rw [eE_n (by omega), wD_f]
          rfl
  refine R_s (P := True) (f' := (0, [some (vR 17), some (vS 8), none], [], LAY A (u F 6 (F 6)), 0, 0)) hc49 0 (by rw [u_self]; rfl) trivial ?_
  refine R_s (P := True) (f' := (2, [some (vR 17), some (vS 8), some (vI 0)], [], LAY A (u F 6 (F 6)), 0, 0)) hc49 2 rfl trivial ?_
  exact lp 3 0 _ _ rfl h6.1 h6.2 rfl (by omega) (by omega)
theorem l_word9 {A : Nat → List Int} {F : Nat → Int} (hL : LENS A) (h5 : 0 ≤ F 5 ∧ F 5 ≤ 120) (h6 : 0 ≤ F 6 ∧ F 6 ≤ F 5) : R 49 (0, L0 49 [vR 17, vS 9], [], LAY A F, 0, 0) (fun r G => ∃ b a, r = some (vI b) ∧ G = LAY A (u F 6 a) ∧ (b = 0 ∨ b = 1) ∧ wD (A 18) (F 5) HEADS (0, F 6) = (1 - b, a) ∧ 0 ≤ a ∧ a ≤ F 5) := by
  have hsl := sl9
  have hnn : ∀ j, j < 5 → 0 ≤ HEADS.getD j 0 := by decide
  have lp : ∀ (m i : Nat) (x : Int) (pl : Int), x = (i : Int) → 0 ≤ pl → pl ≤ F 5 → wD (A 18) (F 5) HEADS (0, F 6) = wD (A 18) (F 5) (HEADS.drop i) (0, pl) → i ≤ 5 → 5 + 1 ≤ i + m → R 49 (2, [some (vR 17), some (vS 9), some (vI x)], [], LAY A (u F 6 pl), 0, 0) (fun r G => ∃ b a, r = some (vI b) ∧ G = LAY A (u F 6 a) ∧ (b = 0 ∨ b = 1) ∧ wD (A 18) (F 5) HEADS (0, F 6) = (1 - b, a) ∧ 0 ≤ a ∧ a ≤ F 5) := by
    intro m
    induction m with
    | zero =>
      intro i x pl ex hp0 hp1 hz hi hm
      exact absurd hm (by omega)
    | succ m ih =>
      intro i x pl ex hp0 hp1 hz hi hm
      have hci := hsl.2 i
      have hdr : i < 5 → HEADS.drop i = HEADS.getD i 0 :: HEADS.drop (i + 1) := fun q => by
        rw [List.drop_eq_getElem_cons (show i < HEADS.length from q), List.getD_eq_getElem?_getD, List.getElem?_eq_getElem (show i < HEADS.length from q)]
        rfl
      rw [← ex] at hci
      refine R_s (P := True) (f' := (7, [some (vR 17), some (vS 9), some (vI x)], [vI (slen 9), vI x], LAY A (u F 6 pl), 0, 0)) hc49 3 rfl trivial ?_
      refine R_ic (t := 40) hc49 rfl rfl (fun (c1 : slen 9 ≤ x) => ?_) (fun (c1 : ¬ (slen 9 ≤ x)) => ?_)
      · refine R_s (P := True) (f' := (41, [some (vR 17), some (vS 9), some (vI x)], [vI 1], LAY A (u F 6 pl), 0, 0)) hc49 1 rfl trivial ?_
        refine R_retz hc49 rfl rfl (Or.inr rfl) ⟨1, pl, rfl, rfl, .inr rfl, ?_, hp0, hp1⟩
        rw [hz, show i = 5 by omega]
        rfl
      · refine R_s (P := True) (f' := (11, [some (vR 17), some (vS 9), some (vI x)], [vR 17], LAY A (u F 6 pl), 0, 0)) hc49 1 rfl trivial ?_
        refine R_cv hc49 rfl rfl (l_next (A := A) (F := (u F 6 pl)) hL h5 ⟨by (show 0 ≤ pl); omega, by (show pl ≤ F 5); omega⟩) (fun r G9 hp9 => ?_)
        obtain ⟨e1, rfl⟩ := hp9
        have e2 : r = some (vI (nx (A 18) (F 5) pl)) := e1
        clear e1
        subst e2
        refine R_s (f' := (14, [some (vR 17), some (vS 9), some (vI x)], [vI (nx (A 18) (F 5) pl)], LAY A (u F 6 pl), 0, 0)) hc49 0 rfl trivial ?_
        refine R_s (P := (0 ≤ x ∧ x < slen 9) ∧ True) (f' := (19, [some (vR 17), some (vS 9), some (vI x)], [vI (schr 9 x), vI (nx (A 18) (F 5) pl)], LAY A (u F 6 pl), 0, 0)) hc49 3 rfl ⟨⟨by omega, by omega⟩, trivial⟩ ?_
        refine R_ic (t := 24) hc49 rfl rfl (fun (c2 : nx (A 18) (F 5) pl = schr 9 x) => ?_) (fun (c2 : ¬ (nx (A 18) (F 5) pl = schr 9 x)) => ?_)
        · refine R_s (P := inI (pl + 1) ∧ inI (x + 1) ∧ True) (f' := (2, [some (vR 17), some (vS 9), some (vI (x + 1))], [], LAY A (u F 6 (pl + 1)), 0, 0)) hc49 8 rfl ⟨⟨by omega, by omega⟩, ⟨by omega, by omega⟩, trivial⟩ ?_
          have hc := hci (by omega)
          have hin := nx_in (l := A 18) (n := F 5) (a := pl) (by have z := hnn i (by omega); omega)
          refine ih (i + 1) _ _ (by omega) (by omega) (by omega) ?_ (by omega) (by omega)
          rw [hz, hdr (by omega)]
          simp only [wD]
          rw [eE_y (by omega)]
        · refine R_s (P := True) (f' := (23, [some (vR 17), some (vS 9), some (vI x)], [vI 0], LAY A (u F 6 pl), 0, 0)) hc49 1 rfl trivial ?_
          refine R_retz hc49 rfl rfl (Or.inl rfl) ⟨0, pl, rfl, rfl, .inl rfl, ?_, hp0, hp1⟩
          have hc := hci (by omega)
          rw [hz, hdr (by omega)]
          simp only [wD]
          rw [eE_n (by omega), wD_f]
          rfl
  refine R_s (P := True) (f' := (0, [some (vR 17), some (vS 9), none], [], LAY A (u F 6 (F 6)), 0, 0)) hc49 0 (by rw [u_self]; rfl) trivial ?_
  refine R_s (P := True) (f' := (2, [some (vR 17), some (vS 9), some (vI 0)], [], LAY A (u F 6 (F 6)), 0, 0)) hc49 2 rfl trivial ?_
  exact lp 6 0 _ _ rfl h6.1 h6.2 rfl (by omega) (by omega)
theorem l_word10 {A : Nat → List Int} {F : Nat → Int} (hL : LENS A) (h5 : 0 ≤ F 5 ∧ F 5 ≤ 120) (h6 : 0 ≤ F 6 ∧ F 6 ≤ F 5) : R 49 (0, L0 49 [vR 17, vS 10], [], LAY A F, 0, 0) (fun r G => ∃ b a, r = some (vI b) ∧ G = LAY A (u F 6 a) ∧ (b = 0 ∨ b = 1) ∧ wD (A 18) (F 5) STEM (0, F 6) = (1 - b, a) ∧ 0 ≤ a ∧ a ≤ F 5) := by
  have hsl := sl10
  have hnn : ∀ j, j < 4 → 0 ≤ STEM.getD j 0 := by decide
  have lp : ∀ (m i : Nat) (x : Int) (pl : Int), x = (i : Int) → 0 ≤ pl → pl ≤ F 5 → wD (A 18) (F 5) STEM (0, F 6) = wD (A 18) (F 5) (STEM.drop i) (0, pl) → i ≤ 4 → 4 + 1 ≤ i + m → R 49 (2, [some (vR 17), some (vS 10), some (vI x)], [], LAY A (u F 6 pl), 0, 0) (fun r G => ∃ b a, r = some (vI b) ∧ G = LAY A (u F 6 a) ∧ (b = 0 ∨ b = 1) ∧ wD (A 18) (F 5) STEM (0, F 6) = (1 - b, a) ∧ 0 ≤ a ∧ a ≤ F 5) := by
    intro m
    induction m with
    | zero =>
      intro i x pl ex hp0 hp1 hz hi hm
      exact absurd hm (by omega)
    | succ m ih =>
      intro i x pl ex hp0 hp1 hz hi hm
      have hci := hsl.2 i
      have hdr : i < 4 → STEM.drop i = STEM.getD i 0 :: STEM.drop (i + 1) := fun q => by
        rw [List.drop_eq_getElem_cons (show i < STEM.length from q), List.getD_eq_getElem?_getD, List.getElem?_eq_getElem (show i < STEM.length from q)]
        rfl
      rw [← ex] at hci
      refine R_s (P := True) (f' := (7, [some (vR 17), some (vS 10), some (vI x)], [vI (slen 10), vI x], LAY A (u F 6 pl), 0, 0)) hc49 3 rfl trivial ?_
      refine R_ic (t := 40) hc49 rfl rfl (fun (c1 : slen 10 ≤ x) => ?_) (fun (c1 : ¬ (slen 10 ≤ x)) => ?_)
      · refine R_s (P := True) (f' := (41, [some (vR 17), some (vS 10), some (vI x)], [vI 1], LAY A (u F 6 pl), 0, 0)) hc49 1 rfl trivial ?_
        refine R_retz hc49 rfl rfl (Or.inr rfl) ⟨1, pl, rfl, rfl, .inr rfl, ?_, hp0, hp1⟩
        rw [hz, show i = 4 by omega]
        rfl
      · refine R_s (P := True) (f' := (11, [some (vR 17), some (vS 10), some (vI x)], [vR 17], LAY A (u F 6 pl), 0, 0)) hc49 1 rfl trivial ?_
        refine R_cv hc49 rfl rfl (l_next (A := A) (F := (u F 6 pl)) hL h5 ⟨by (show 0 ≤ pl); omega, by (show pl ≤ F 5); omega⟩) (fun r G9 hp9 => ?_)
        obtain ⟨e1, rfl⟩ := hp9
        have e2 : r = some (vI (nx (A 18) (F 5) pl)) := e1
        clear e1
        subst e2
        refine R_s (f' := (14, [some (vR 17), some (vS 10), some (vI x)], [vI (nx (A 18) (F 5) pl)], LAY A (u F 6 pl), 0, 0)) hc49 0 rfl trivial ?_
        refine R_s (P := (0 ≤ x ∧ x < slen 10) ∧ True) (f' := (19, [some (vR 17), some (vS 10), some (vI x)], [vI (schr 10 x), vI (nx (A 18) (F 5) pl)], LAY A (u F 6 pl), 0, 0)) hc49 3 rfl ⟨⟨by omega, by omega⟩, trivial⟩ ?_
        refine R_ic (t := 24) hc49 rfl rfl (fun (c2 : nx (A 18) (F 5) pl = schr 10 x) => ?_) (fun (c2 : ¬ (nx (A 18) (F 5) pl = schr 10 x)) => ?_)
        · refine R_s (P := inI (pl + 1) ∧ inI (x + 1) ∧ True) (f' := (2, [some (vR 17), some (vS 10), some (vI (x + 1))], [], LAY A (u F 6 (pl + 1)), 0, 0)) hc49 8 rfl ⟨⟨by omega, by omega⟩, ⟨by omega, by omega⟩, trivial⟩ ?_
          have hc := hci (by omega)
          have hin := nx_in (l := A 18) (n := F 5) (a := pl) (by have z := hnn i (by omega); omega)
          refine ih (i + 1) _ _ (by omega) (by omega) (by omega) ?_ (by omega) (by omega)
          rw [hz, hdr (by omega)]
          simp only [wD]
          rw [eE_y (by omega)]
        · refine R_s (P := True) (f' := (23, [some (vR 17), some (vS 10), some (vI x)], [vI 0], LAY A (u F 6 pl), 0, 0)) hc49 1 rfl trivial ?_
          refine R_retz hc49 rfl rfl (Or.inl rfl) ⟨0, pl, rfl, rfl, .inl rfl, ?_, hp0, hp1⟩
          have hc := hci (by omega)
          rw [hz, hdr (by omega)]
          simp only [wD]
          rw [eE_n (by omega), wD_f]
          rfl
  refine R_s (P := True) (f' := (0, [some (vR 17), some (vS 10), none], [], LAY A (u F 6 (F 6)), 0, 0)) hc49 0 (by rw [u_self]; rfl) trivial ?_
  refine R_s (P := True) (f' := (2, [some (vR 17), some (vS 10), some (vI 0)], [], LAY A (u F 6 (F 6)), 0, 0)) hc49 2 rfl trivial ?_
  exact lp 5 0 _ _ rfl h6.1 h6.2 rfl (by omega) (by omega)
theorem l_word11 {A : Nat → List Int} {F : Nat → Int} (hL : LENS A) (h5 : 0 ≤ F 5 ∧ F 5 ≤ 120) (h6 : 0 ≤ F 6 ∧ F 6 ≤ F 5) : R 49 (0, L0 49 [vR 17, vS 11], [], LAY A F, 0, 0) (fun r G => ∃ b a, r = some (vI b) ∧ G = LAY A (u F 6 a) ∧ (b = 0 ∨ b = 1) ∧ wD (A 18) (F 5) MAN (0, F 6) = (1 - b, a) ∧ 0 ≤ a ∧ a ≤ F 5) := by
  have hsl := sl11
  have hnn : ∀ j, j < 4 → 0 ≤ MAN.getD j 0 := by decide
  have lp : ∀ (m i : Nat) (x : Int) (pl : Int), x = (i : Int) → 0 ≤ pl → pl ≤ F 5 → wD (A 18) (F 5) MAN (0, F 6) = wD (A 18) (F 5) (MAN.drop i) (0, pl) → i ≤ 4 → 4 + 1 ≤ i + m → R 49 (2, [some (vR 17), some (vS 11), some (vI x)], [], LAY A (u F 6 pl), 0, 0) (fun r G => ∃ b a, r = some (vI b) ∧ G = LAY A (u F 6 a) ∧ (b = 0 ∨ b = 1) ∧ wD (A 18) (F 5) MAN (0, F 6) = (1 - b, a) ∧ 0 ≤ a ∧ a ≤ F 5) := by
    intro m
    induction m with
    | zero =>
      intro i x pl ex hp0 hp1 hz hi hm
      exact absurd hm (by omega)
    | succ m ih =>
      intro i x pl ex hp0 hp1 hz hi hm
      have hci := hsl.2 i
      have hdr : i < 4 → MAN.drop i = MAN.getD i 0 :: MAN.drop (i + 1) := fun q => by
        rw [List.drop_eq_getElem_cons (show i < MAN.length from q), List.getD_eq_getElem?_getD, List.getElem?_eq_getElem (show i < MAN.length from q)]
        rfl
      rw [← ex] at hci
      refine R_s (P := True) (f' := (7, [some (vR 17), some (vS 11), some (vI x)], [vI (slen 11), vI x], LAY A (u F 6 pl), 0, 0)) hc49 3 rfl trivial ?_
      refine R_ic (t := 40) hc49 rfl rfl (fun (c1 : slen 11 ≤ x) => ?_) (fun (c1 : ¬ (slen 11 ≤ x)) => ?_)
      · refine R_s (P := True) (f' := (41, [some (vR 17), some (vS 11), some (vI x)], [vI 1], LAY A (u F 6 pl), 0, 0)) hc49 1 rfl trivial ?_
        refine R_retz hc49 rfl rfl (Or.inr rfl) ⟨1, pl, rfl, rfl, .inr rfl, ?_, hp0, hp1⟩
        rw [hz, show i = 4 by omega]
        rfl
      · refine R_s (P := True) (f' := (11, [some (vR 17), some (vS 11), some (vI x)], [vR 17], LAY A (u F 6 pl), 0, 0)) hc49 1 rfl trivial ?_
        refine R_cv hc49 rfl rfl (l_next (A := A) (F := (u F 6 pl)) hL h5 ⟨by (show 0 ≤ pl); omega, by (show pl ≤ F 5); omega⟩) (fun r G9 hp9 => ?_)
        obtain ⟨e1, rfl⟩ := hp9
        have e2 : r = some (vI (nx (A 18) (F 5) pl)) := e1
        clear e1
        subst e2
        refine R_s (f' := (14, [some (vR 17), some (vS 11), some (vI x)], [vI (nx (A 18) (F 5) pl)], LAY A (u F 6 pl), 0, 0)) hc49 0 rfl trivial ?_
        refine R_s (P := (0 ≤ x ∧ x < slen 11) ∧ True) (f' := (19, [some (vR 17), some (vS 11), some (vI x)], [vI (schr 11 x), vI (nx (A 18) (F 5) pl)], LAY A (u F 6 pl), 0, 0)) hc49 3 rfl ⟨⟨by omega, by omega⟩, trivial⟩ ?_
        refine R_ic (t := 24) hc49 rfl rfl (fun (c2 : nx (A 18) (F 5) pl = schr 11 x) => ?_) (fun (c2 : ¬ (nx (A 18) (F 5) pl = schr 11 x)) => ?_)
        · refine R_s (P := inI (pl + 1) ∧ inI (x + 1) ∧ True) (f' := (2, [some (vR 17), some (vS 11), some (vI (x + 1))], [], LAY A (u F 6 (pl + 1)), 0, 0)) hc49 8 rfl ⟨⟨by omega, by omega⟩, ⟨by omega, by omega⟩, trivial⟩ ?_
          have hc := hci (by omega)
          have hin := nx_in (l := A 18) (n := F 5) (a := pl) (by have z := hnn i (by omega); omega)
          refine ih (i + 1) _ _ (by omega) (by omega) (by omega) ?_ (by omega) (by omega)
          rw [hz, hdr (by omega)]
          simp only [wD]
          rw [eE_y (by omega)]
        · refine R_s (P := True) (f' := (23, [some (vR 17), some (vS 11), some (vI x)], [vI 0], LAY A (u F 6 pl), 0, 0)) hc49 1 rfl trivial ?_
          refine R_retz hc49 rfl rfl (Or.inl rfl) ⟨0, pl, rfl, rfl, .inl rfl, ?_, hp0, hp1⟩
          have hc := hci (by omega)
          rw [hz, hdr (by omega)]
          simp only [wD]
          rw [eE_n (by omega), wD_f]
          rfl
  refine R_s (P := True) (f' := (0, [some (vR 17), some (vS 11), none], [], LAY A (u F 6 (F 6)), 0, 0)) hc49 0 (by rw [u_self]; rfl) trivial ?_
  refine R_s (P := True) (f' := (2, [some (vR 17), some (vS 11), some (vI 0)], [], LAY A (u F 6 (F 6)), 0, 0)) hc49 2 rfl trivial ?_
  exact lp 5 0 _ _ rfl h6.1 h6.2 rfl (by omega) (by omega)
theorem l_word12 {A : Nat → List Int} {F : Nat → Int} (hL : LENS A) (h5 : 0 ≤ F 5 ∧ F 5 ≤ 120) (h6 : 0 ≤ F 6 ∧ F 6 ≤ F 5) : R 49 (0, L0 49 [vR 17, vS 12], [], LAY A F, 0, 0) (fun r G => ∃ b a, r = some (vI b) ∧ G = LAY A (u F 6 a) ∧ (b = 0 ∨ b = 1) ∧ wD (A 18) (F 5) REST (0, F 6) = (1 - b, a) ∧ 0 ≤ a ∧ a ≤ F 5) := by
  have hsl := sl12
  have hnn : ∀ j, j < 5 → 0 ≤ REST.getD j 0 := by decide
  have lp : ∀ (m i : Nat) (x : Int) (pl : Int), x = (i : Int) → 0 ≤ pl → pl ≤ F 5 → wD (A 18) (F 5) REST (0, F 6) = wD (A 18) (F 5) (REST.drop i) (0, pl) → i ≤ 5 → 5 + 1 ≤ i + m → R 49 (2, [some (vR 17), some (vS 12), some (vI x)], [], LAY A (u F 6 pl), 0, 0) (fun r G => ∃ b a, r = some (vI b) ∧ G = LAY A (u F 6 a) ∧ (b = 0 ∨ b = 1) ∧ wD (A 18) (F 5) REST (0, F 6) = (1 - b, a) ∧ 0 ≤ a ∧ a ≤ F 5) := by
    intro m
    induction m with
    | zero =>
      intro i x pl ex hp0 hp1 hz hi hm
      exact absurd hm (by omega)
    | succ m ih =>
      intro i x pl ex hp0 hp1 hz hi hm
      have hci := hsl.2 i
      have hdr : i < 5 → REST.drop i = REST.getD i 0 :: REST.drop (i + 1) := fun q => by
        rw [List.drop_eq_getElem_cons (show i < REST.length from q), List.getD_eq_getElem?_getD, List.getElem?_eq_getElem (show i < REST.length from q)]
        rfl
      rw [← ex] at hci
      refine R_s (P := True) (f' := (7, [some (vR 17), some (vS 12), some (vI x)], [vI (slen 12), vI x], LAY A (u F 6 pl), 0, 0)) hc49 3 rfl trivial ?_
      refine R_ic (t := 40) hc49 rfl rfl (fun (c1 : slen 12 ≤ x) => ?_) (fun (c1 : ¬ (slen 12 ≤ x)) => ?_)
      · refine R_s (P := True) (f' := (41, [some (vR 17), some (vS 12), some (vI x)], [vI 1], LAY A (u F 6 pl), 0, 0)) hc49 1 rfl trivial ?_
        refine R_retz hc49 rfl rfl (Or.inr rfl) ⟨1, pl, rfl, rfl, .inr rfl, ?_, hp0, hp1⟩
        rw [hz, show i = 5 by omega]
        rfl
      · refine R_s (P := True) (f' := (11, [some (vR 17), some (vS 12), some (vI x)], [vR 17], LAY A (u F 6 pl), 0, 0)) hc49 1 rfl trivial ?_
        refine R_cv hc49 rfl rfl (l_next (A := A) (F := (u F 6 pl)) hL h5 ⟨by (show 0 ≤ pl); omega, by (show pl ≤ F 5); omega⟩) (fun r G9 hp9 => ?_)
        obtain ⟨e1, rfl⟩ := hp9
        have e2 : r = some (vI (nx (A 18) (F 5) pl)) := e1
        clear e1
        subst e2
        refine R_s (f' := (14, [some (vR 17), some (vS 12), some (vI x)], [vI (nx (A 18) (F 5) pl)], LAY A (u F 6 pl), 0, 0)) hc49 0 rfl trivial ?_
        refine R_s (P := (0 ≤ x ∧ x < slen 12) ∧ True) (f' := (19, [some (vR 17), some (vS 12), some (vI x)], [vI (schr 12 x), vI (nx (A 18) (F 5) pl)], LAY A (u F 6 pl), 0, 0)) hc49 3 rfl ⟨⟨by omega, by omega⟩, trivial⟩ ?_
        refine R_ic (t := 24) hc49 rfl rfl (fun (c2 : nx (A 18) (F 5) pl = schr 12 x) => ?_) (fun (c2 : ¬ (nx (A 18) (F 5) pl = schr 12 x)) => ?_)
        · refine R_s (P := inI (pl + 1) ∧ inI (x + 1) ∧ True) (f' := (2, [some (vR 17), some (vS 12), some (vI (x + 1))], [], LAY A (u F 6 (pl + 1)), 0, 0)) hc49 8 rfl ⟨⟨by omega, by omega⟩, ⟨by omega, by omega⟩, trivial⟩ ?_
          have hc := hci (by omega)
          have hin := nx_in (l := A 18) (n := F 5) (a := pl) (by have z := hnn i (by omega); omega)
          refine ih (i + 1) _ _ (by omega) (by omega) (by omega) ?_ (by omega) (by omega)
          rw [hz, hdr (by omega)]
          simp only [wD]
          rw [eE_y (by omega)]
        · refine R_s (P := True) (f' := (23, [some (vR 17), some (vS 12), some (vI x)], [vI 0], LAY A (u F 6 pl), 0, 0)) hc49 1 rfl trivial ?_
          refine R_retz hc49 rfl rfl (Or.inl rfl) ⟨0, pl, rfl, rfl, .inl rfl, ?_, hp0, hp1⟩
          have hc := hci (by omega)
          rw [hz, hdr (by omega)]
          simp only [wD]
          rw [eE_n (by omega), wD_f]
          rfl
  refine R_s (P := True) (f' := (0, [some (vR 17), some (vS 12), none], [], LAY A (u F 6 (F 6)), 0, 0)) hc49 0 (by rw [u_self]; rfl) trivial ?_
  refine R_s (P := True) (f' := (2, [some (vR 17), some (vS 12), some (vI 0)], [], LAY A (u F 6 (F 6)), 0, 0)) hc49 2 rfl trivial ?_
  exact lp 6 0 _ _ rfl h6.1 h6.2 rfl (by omega) (by omega)
theorem l_word13 {A : Nat → List Int} {F : Nat → Int} (hL : LENS A) (h5 : 0 ≤ F 5 ∧ F 5 ≤ 120) (h6 : 0 ≤ F 6 ∧ F 6 ≤ F 5) : R 49 (0, L0 49 [vR 17, vS 13], [], LAY A F, 0, 0) (fun r G => ∃ b a, r = some (vI b) ∧ G = LAY A (u F 6 a) ∧ (b = 0 ∨ b = 1) ∧ wD (A 18) (F 5) SEMI (0, F 6) = (1 - b, a) ∧ 0 ≤ a ∧ a ≤ F 5) := by
  have hsl := sl13
  have hnn : ∀ j, j < 2 → 0 ≤ SEMI.getD j 0 := by decide
  have lp : ∀ (m i : Nat) (x : Int) (pl : Int), x = (i : Int) → 0 ≤ pl → pl ≤ F 5 → wD (A 18) (F 5) SEMI (0, F 6) = wD (A 18) (F 5) (SEMI.drop i) (0, pl) → i ≤ 2 → 2 + 1 ≤ i + m → R 49 (2, [some (vR 17), some (vS 13), some (vI x)], [], LAY A (u F 6 pl), 0, 0) (fun r G => ∃ b a, r = some (vI b) ∧ G = LAY A (u F 6 a) ∧ (b = 0 ∨ b = 1) ∧ wD (A 18) (F 5) SEMI (0, F 6) = (1 - b, a) ∧ 0 ≤ a ∧ a ≤ F 5) := by
    intro m
    induction m with
    | zero =>
      intro i x pl ex hp0 hp1 hz hi hm
      exact absurd hm (by omega)
    | succ m ih =>
      intro i x pl ex hp0 hp1 hz hi hm
      have hci := hsl.2 i
      have hdr : i < 2 → SEMI.drop i = SEMI.getD i 0 :: SEMI.drop (i + 1) := fun q => by
        rw [List.drop_eq_getElem_cons (show i < SEMI.length from q), List.getD_eq_getElem?_getD, List.getElem?_eq_getElem (show i < SEMI.length from q)]
        rfl
      rw [← ex] at hci
      refine R_s (P := True) (f' := (7, [some (vR 17), some (vS 13), some (vI x)], [vI (slen 13), vI x], LAY A (u F 6 pl), 0, 0)) hc49 3 rfl trivial ?_
      refine R_ic (t := 40) hc49 rfl rfl (fun (c1 : slen 13 ≤ x) => ?_) (fun (c1 : ¬ (slen 13 ≤ x)) => ?_)
      · refine R_s (P := True) (f' := (41, [some (vR 17), some (vS 13), some (vI x)], [vI 1], LAY A (u F 6 pl), 0, 0)) hc49 1 rfl trivial ?_
        refine R_retz hc49 rfl rfl (Or.inr rfl) ⟨1, pl, rfl, rfl, .inr rfl, ?_, hp0, hp1⟩
        rw [hz, show i = 2 by omega]
        rfl
      · refine R_s (P := True) (f' := (11, [some (vR 17), some (vS 13), some (vI x)], [vR 17], LAY A (u F 6 pl), 0, 0)) hc49 1 rfl trivial ?_
        refine R_cv hc49 rfl rfl (l_next (A := A) (F := (u F 6 pl)) hL h5 ⟨by (show 0 ≤ pl); omega, by (show pl ≤ F 5); omega⟩) (fun r G9 hp9 => ?_)
        obtain ⟨e1, rfl⟩ := hp9
        have e2 : r = some (vI (nx (A 18) (F 5) pl)) := e1
        clear e1
        subst e2
        refine R_s (f' := (14, [some (vR 17), some (vS 13), some (vI x)], [vI (nx (A 18) (F 5) pl)], LAY A (u F 6 pl), 0, 0)) hc49 0 rfl trivial ?_
        refine R_s (P := (0 ≤ x ∧ x < slen 13) ∧ True) (f' := (19, [some (vR 17), some (vS 13), some (vI x)], [vI (schr 13 x), vI (nx (A 18) (F 5) pl)], LAY A (u F 6 pl), 0, 0)) hc49 3 rfl ⟨⟨by omega, by omega⟩, trivial⟩ ?_
        refine R_ic (t := 24) hc49 rfl rfl (fun (c2 : nx (A 18) (F 5) pl = schr 13 x) => ?_) (fun (c2 : ¬ (nx (A 18) (F 5) pl = schr 13 x)) => ?_)
        · refine R_s (P := inI (pl + 1) ∧ inI (x + 1) ∧ True) (f' := (2, [some (vR 17), some (vS 13), some (vI (x + 1))], [], LAY A (u F 6 (pl + 1)), 0, 0)) hc49 8 rfl ⟨⟨by omega, by omega⟩, ⟨by omega, by omega⟩, trivial⟩ ?_
          have hc := hci (by omega)
          have hin := nx_in (l := A 18) (n := F 5) (a := pl) (by have z := hnn i (by omega); omega)
          refine ih (i + 1) _ _ (by omega) (by omega) (by omega) ?_ (by omega) (by omega)
          rw [hz, hdr (by omega)]
          simp only [wD]
          rw [eE_y (by omega)]
        · refine R_s (P := True) (f' := (23, [some (vR 17), some (vS 13), some (vI x)], [vI 0], LAY A (u F 6 pl), 0, 0)) hc49 1 rfl trivial ?_
          refine R_retz hc49 rfl rfl (Or.inl rfl) ⟨0, pl, rfl, rfl, .inl rfl, ?_, hp0, hp1⟩
          have hc := hci (by omega)
          rw [hz, hdr (by omega)]
          simp only [wD]
          rw [eE_n (by omega), wD_f]
          rfl
  refine R_s (P := True) (f' := (0, [some (vR 17), some (vS 13), none], [], LAY A (u F 6 (F 6)), 0, 0)) hc49 0 (by rw [u_self]; rfl) trivial ?_
  refine R_s (P := True) (f' := (2, [some (vR 17), some (vS 13), some (vI 0)], [], LAY A (u F 6 (F 6)), 0, 0)) hc49 2 rfl trivial ?_
  exact lp 3 0 _ _ rfl h6.1 h6.2 rfl (by omega) (by omega)
theorem l_numb {A : Nat → List Int} {F : Nat → Int} (hL : LENS A) (h5 : 0 ≤ F 5 ∧ F 5 ≤ 120) (h6 : 0 ≤ F 6 ∧ F 6 ≤ F 5) {kk : Nat} (hk4 : kk ≤ 4) {w : Int} (ew : w = kk) : R 48 (0, L0 48 [vR 17, vI w], [], LAY A F, 0, 0) (fun r G => ∃ b a v, r = some (vI b) ∧ G = LAY A (u (u F 6 a) 7 v) ∧ (b = 0 ∨ b = 1) ∧ dG (A 18) (F 5) kk (0, F 6) = ((1 - b, a), v) ∧ 0 ≤ a ∧ a ≤ F 5 ∧ 0 ≤ v ∧ v ≤ 9999) := by
  have gbd := dG_bd (l := A 18) (n := F 5) (f := 0) kk hk4 h6.1 h6.2
  have lp : ∀ (m i : Nat) (x : Int) (pl : Int) (v : Int), x = (i : Int) → pl = F 6 + i → pl ≤ F 5 → 0 ≤ v ∧ v ≤ 10 ^ i - 1 → dGl (A 18) (F 5) kk 0 (F 6) = dGl (A 18) (F 5) (kk - i) v pl → i ≤ kk → kk + 1 ≤ i + m → R 48 (7, [some (vR 17), some (vI w), some (vI x)], [], LAY A (u (u F 6 pl) 7 v), 0, 0) (fun r G => ∃ b a v, r = some (vI b) ∧ G = LAY A (u (u F 6 a) 7 v) ∧ (b = 0 ∨ b = 1) ∧ dG (A 18) (F 5) kk (0, F 6) = ((1 - b, a), v) ∧ 0 ≤ a ∧ a ≤ F 5 ∧ 0 ≤ v ∧ v ≤ 9999) := by
    intro m
    induction m with
    | zero =>
      intro i x pl v ex hp0 hp1 hv hz hi hm
      exact absurd hm (by omega)
    | succ m ih =>
      intro i x pl v ex hp0 hp1 hv hz hi hm
      have hpw : (10 : Int) ^ i ≤ 10000 := by
        obtain e | e | e | e | e : i = 0 ∨ i = 1 ∨ i = 2 ∨ i = 3 ∨ i = 4 := by omega
        all_goals rw [e]; decide
      have hps : (10 : Int) ^ (i + 1) = 10 ^ i * 10 := Int.pow_succ ..
      have hst : i < kk → kk - i = (kk - (i + 1)) + 1 := fun q => by omega
      refine R_s (P := True) (f' := (9, [some (vR 17), some (vI w), some (vI x)], [vI w, vI x], LAY A (u (u F 6 pl) 7 v), 0, 0)) hc48 2 rfl trivial ?_
      refine R_ic (t := 65) hc48 rfl rfl (fun (c1 : w ≤ x) => ?_) (fun (c1 : ¬ (w ≤ x)) => ?_)
      · refine R_s (P := True) (f' := (66, [some (vR 17), some (vI w), some (vI x)], [vI x], LAY A (u (u F 6 pl) 7 v), 0, 0)) hc48 1 rfl trivial ?_
        refine R_if (t := 73) hc48 rfl rfl (fun (c2 : x ≤ 0) => ?_) (fun (c2 : ¬ (x ≤ 0)) => ?_)
        · refine R_s (P := True) (f' := (74, [some (vR 17), some (vI w), some (vI x)], [vI 0], LAY A (u (u F 6 pl) 7 v), 0, 0)) hc48 1 rfl trivial ?_
          refine R_retz hc48 rfl rfl (Or.inl rfl) ⟨0, pl, v, rfl, rfl, by decide, ?_, by omega, hp1, by omega, by omega⟩
          have e9 : dGl (A 18) (F 5) (kk - i) v pl = (v, pl) := by
            by_cases q : i < kk
            · rw [hst q]
              simp only [dGl]
              rw [if_neg (fun z => by omega)]
            · rw [show kk - i = 0 by omega]
              rfl
          unfold dG
          (try dsimp only)
          rw [if_pos rfl, hz, e9]
          (try dsimp only)
          rw [if_pos (by omega)]
          rfl
        · refine R_s (P := True) (f' := (74, [some (vR 17), some (vI w), some (vI x)], [vI 1], LAY A (u (u F 6 pl) 7 v), 0, 0)) hc48 2 rfl trivial ?_
          refine R_retz hc48 rfl rfl (Or.inr rfl) ⟨1, pl, v, rfl, rfl, by decide, ?_, by omega, hp1, by omega, by omega⟩
          have e9 : dGl (A 18) (F 5) (kk - i) v pl = (v, pl) := by
            by_cases q : i < kk
            · rw [hst q]
              simp only [dGl]
              rw [if_neg (fun z => by omega)]
            · rw [show kk - i = 0 by omega]
              rfl
          unfold dG
          (try dsimp only)
          rw [if_pos rfl, hz, e9]
          (try dsimp only)
          rw [if_neg (by omega)]
          rfl
      · refine R_s (P := True) (f' := (13, [some (vR 17), some (vI w), some (vI x)], [vR 17], LAY A (u (u F 6 pl) 7 v), 0, 0)) hc48 1 rfl trivial ?_
        refine R_cv hc48 rfl rfl (l_next (A := A) (F := (u (u F 6 pl) 7 v)) hL h5 ⟨by (show 0 ≤ pl); omega, by (show pl ≤ F 5); omega⟩) (fun r G9 hp9 => ?_)
        obtain ⟨e1, rfl⟩ := hp9
        have e2 : r = some (vI (nx (A 18) (F 5) pl)) := e1
        clear e1
        subst e2
        refine R_s (f' := (16, [some (vR 17), some (vI w), some (vI x)], [vI (nx (A 18) (F 5) pl)], LAY A (u (u F 6 pl) 7 v), 0, 0)) hc48 0 rfl trivial ?_
        refine R_s (P := True) (f' := (18, [some (vR 17), some (vI w), some (vI x)], [vI 48, vI (nx (A 18) (F 5) pl)], LAY A (u (u F 6 pl) 7 v), 0, 0)) hc48 1 rfl trivial ?_
        refine R_ic (t := 65) hc48 rfl rfl (fun (c3 : nx (A 18) (F 5) pl < 48) => ?_) (fun (c3 : ¬ (nx (A 18) (F 5) pl < 48)) => ?_)
        · refine R_s (P := True) (f' := (66, [some (vR 17), some (vI w), some (vI x)], [vI x], LAY A (u (u F 6 pl) 7 v), 0, 0)) hc48 1 rfl trivial ?_
          refine R_if (t := 73) hc48 rfl rfl (fun (c4 : x ≤ 0) => ?_) (fun (c4 : ¬ (x ≤ 0)) => ?_)
          · refine R_s (P := True) (f' := (74, [some (vR 17), some (vI w), some (vI x)], [vI 0], LAY A (u (u F 6 pl) 7 v), 0, 0)) hc48 1 rfl trivial ?_
            refine R_retz hc48 rfl rfl (Or.inl rfl) ⟨0, pl, v, rfl, rfl, by decide, ?_, by omega, hp1, by omega, by omega⟩
            have e9 : dGl (A 18) (F 5) (kk - i) v pl = (v, pl) := by
              by_cases q : i < kk
              · rw [hst q]
                simp only [dGl]
                rw [if_neg (fun z => by omega)]
              · rw [show kk - i = 0 by omega]
                rfl
            unfold dG
            (try dsimp only)
            rw [if_pos rfl, hz, e9]
            (try dsimp only)
            rw [if_pos (by omega)]
            rfl
          · refine R_s (P := True) (f' := (74, [some (vR 17), some (vI w), some (vI x)], [vI 1], LAY A (u (u F 6 pl) 7 v), 0, 0)) hc48 2 rfl trivial ?_
            refine R_retz hc48 rfl rfl (Or.inr rfl) ⟨1, pl, v, rfl, rfl, by decide, ?_, by omega, hp1, by omega, by omega⟩
            have e9 : dGl (A 18) (F 5) (kk - i) v pl = (v, pl) := by
              by_cases q : i < kk
              · rw [hst q]
                simp only [dGl]
                rw [if_neg (fun z => by omega)]
              · rw [show kk - i = 0 by omega]
                rfl
            unfold dG
            (try dsimp only)
            rw [if_pos rfl, hz, e9]
            (try dsimp only)
            rw [if_neg (by omega)]
            rfl
        · refine R_s (P := True) (f' := (22, [some (vR 17), some (vI w), some (vI x)], [vR 17], LAY A (u (u F 6 pl) 7 v), 0, 0)) hc48 1 rfl trivial ?_
          refine R_cv hc48 rfl rfl (l_next (A := A) (F := (u (u F 6 pl) 7 v)) hL h5 ⟨by (show 0 ≤ pl); omega, by (show pl ≤ F 5); omega⟩) (fun r G9 hp9 => ?_)
          obtain ⟨e1, rfl⟩ := hp9
          have e2 : r = some (vI (nx (A 18) (F 5) pl)) := e1
          clear e1
          subst e2
          refine R_s (f' := (25, [some (vR 17), some (vI w), some (vI x)], [vI (nx (A 18) (F 5) pl)], LAY A (u (u F 6 pl) 7 v), 0, 0)) hc48 0 rfl trivial ?_
          refine R_s (P := True) (f' := (27, [some (vR 17), some (vI w), some (vI x)], [vI 57, vI (nx (A 18) (F 5) pl)], LAY A (u (u F 6 pl) 7 v), 0, 0)) hc48 1 rfl trivial ?_
          refine R_ic (t := 65) hc48 rfl rfl (fun (c5 : 57 < nx (A 18) (F 5) pl) => ?_) (fun (c5 : ¬ (57 < nx (A 18) (F 5) pl)) => ?_)
          · refine R_s (P := True) (f' := (66, [some (vR 17), some (vI w), some (vI x)], [vI x], LAY A (u (u F 6 pl) 7 v), 0, 0)) hc48 1 rfl trivial ?_
            refine R_if (t := 73) hc48 rfl rfl (fun (c6 : x ≤ 0) => ?_) (fun (c6 : ¬ (x ≤ 0)) => ?_)
            · refine R_s (P := True) (f' := (74, [some (vR 17), some (vI w), some (vI x)], [vI 0], LAY A (u (u F 6 pl) 7 v), 0, 0)) hc48 1 rfl trivial ?_
              refine R_retz hc48 rfl rfl (Or.inl rfl) ⟨0, pl, v, rfl, rfl, by decide, ?_, by omega, hp1, by omega, by omega⟩
              have e9 : dGl (A 18) (F 5) (kk - i) v pl = (v, pl) := by
                by_cases q : i < kk
                · rw [hst q]
                  simp only [dGl]
                  rw [if_neg (fun z => by omega)]
                · rw [show kk - i = 0 by omega]
                  rfl
              unfold dG
              (try dsimp only)
              rw [if_pos rfl, hz, e9]
              (try dsimp only)
              rw [if_pos (by omega)]
              rfl
            · refine R_s (P := True) (f' := (74, [some (vR 17), some (vI w), some (vI x)], [vI 1], LAY A (u (u F 6 pl) 7 v), 0, 0)) hc48 2 rfl trivial ?_
              refine R_retz hc48 rfl rfl (Or.inr rfl) ⟨1, pl, v, rfl, rfl, by decide, ?_, by omega, hp1, by omega, by omega⟩
              have e9 : dGl (A 18) (F 5) (kk - i) v pl = (v, pl) := by
                by_cases q : i < kk
                · rw [hst q]
                  simp only [dGl]
                  rw [if_neg (fun z => by omega)]
                · rw [show kk - i = 0 by omega]
                  rfl
              unfold dG
              (try dsimp only)
              rw [if_pos rfl, hz, e9]
              (try dsimp only)
              rw [if_neg (by omega)]
              rfl
          · refine R_s (P := inI (v * 10) ∧ True) (f' := (39, [some (vR 17), some (vI w), some (vI x)], [vR 17, vI (v * 10), vR 17], LAY A (u (u F 6 pl) 7 v), 0, 0)) hc48 6 rfl ⟨⟨by omega, by omega⟩, trivial⟩ ?_
            refine R_cv hc48 rfl rfl (l_next (A := A) (F := (u (u F 6 pl) 7 v)) hL h5 ⟨by (show 0 ≤ pl); omega, by (show pl ≤ F 5); omega⟩) (fun r G9 hp9 => ?_)
            obtain ⟨e1, rfl⟩ := hp9
            have e2 : r = some (vI (nx (A 18) (F 5) pl)) := e1
            clear e1
            subst e2
            refine R_s (f' := (42, [some (vR 17), some (vI w), some (vI x)], [vI (nx (A 18) (F 5) pl), vI (v * 10), vR 17], LAY A (u (u F 6 pl) 7 v), 0, 0)) hc48 0 rfl trivial ?_
            refine R_s (P := inI ((v * 10) + (nx (A 18) (F 5) pl)) ∧ inI (((v * 10) + (nx (A 18) (F 5) pl)) - 48) ∧ inI (x + 1) ∧ inI (pl + 1) ∧ True) (f' := (7, [some (vR 17), some (vI w), some (vI (x + 1))], [], LAY A (u (u F 7 (((v * 10) + (nx (A 18) (F 5) pl)) - 48)) 6 (pl + 1)), 0, 0)) hc48 12 rfl ⟨⟨by omega, by omega⟩, ⟨by omega, by omega⟩, ⟨by omega, by omega⟩, ⟨by omega, by omega⟩, trivial⟩ ?_
            refine R_s (P := True) (f' := (7, [some (vR 17), some (vI w), some (vI (x + 1))], [], LAY A (u (u F 6 (pl + 1)) 7 (((v * 10) + (nx (A 18) (F 5) pl)) - 48)), 0, 0)) hc48 0 rfl trivial ?_
            have hin := nx_in (l := A 18) (n := F 5) (a := pl) (by omega)
            refine ih (i + 1) _ _ _ (by omega) (by omega) (by omega) ⟨by omega, by rw [hps]; omega⟩ ?_ (by omega) (by omega)
            rw [hz, hst (by omega)]
            simp only [dGl]
            rw [if_pos ⟨by omega, by omega⟩]
  refine R_s (P := True) (f' := (7, [some (vR 17), some (vI w), some (vI 0)], [], LAY A (u (u F 6 (F 6)) 7 0), 0, 0)) hc48 5 rfl trivial ?_
  exact lp (kk + 1) 0 _ _ _ rfl (by omega) h6.2 ⟨by decide, by decide⟩ rfl (by omega) (by omega)
