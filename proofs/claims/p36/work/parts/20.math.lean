theorem sm_congr {g g' : Nat → Int} : ∀ n : Nat, (∀ i, i < n → g i = g' i) → sm g n = sm g' n
  | 0, _ => rfl
  | n + 1, h => by
    simp only [sm]
    rw [sm_congr n (fun i hi => h i (by omega)), h n (by omega)]
theorem sm_add (g g' : Nat → Int) (n : Nat) : sm (fun i => g i + g' i) n = sm g n + sm g' n := by
  induction n with
  | zero => rfl
  | succ n ih => simp only [sm, ih]; omega
theorem sm_zero {g : Nat → Int} (n : Nat) (h : ∀ i, i < n → g i = 0) : sm g n = 0 := by
  induction n with
  | zero => rfl
  | succ n ih => simp only [sm]; rw [ih (fun i hi => h i (by omega)), h n (by omega)]; rfl
theorem sm_one {g : Nat → Int} {p : Nat} (n : Nat) (hp : p < n) (h : ∀ i, i < n → i ≠ p → g i = 0) : sm g n = g p := by
  induction n with
  | zero => omega
  | succ n ih =>
    simp only [sm]
    by_cases e : p = n
    · subst e
      rw [sm_zero p (fun i hi => h i (by omega) (by omega))]; omega
    · rw [ih (by omega) (fun i hi he => h i (by omega) he), h n (by omega) (by omega)]; omega
theorem sm_nn {g : Nat → Int} (n : Nat) (h : ∀ i, i < n → 0 ≤ g i) : 0 ≤ sm g n := by
  induction n with
  | zero => exact Int.le_refl 0
  | succ n ih =>
    simp only [sm]
    have h1 := ih (fun i hi => h i (by omega))
    have h2 := h n (by omega)
    omega
theorem sm_le {g g' : Nat → Int} (n : Nat) (h : ∀ i, i < n → g i ≤ g' i) : sm g n ≤ sm g' n := by
  induction n with
  | zero => exact Int.le_refl 0
  | succ n ih =>
    simp only [sm]
    have h1 := ih (fun i hi => h i (by omega))
    have h2 := h n (by omega)
    omega
theorem sm_ge {g : Nat → Int} {p : Nat} (n : Nat) (hp : p < n) (h : ∀ i, i < n → 0 ≤ g i) : g p ≤ sm g n := by
  induction n with
  | zero => omega
  | succ n ih =>
    simp only [sm]
    have h2 := h n (by omega)
    have h3 := sm_nn n (fun i hi => h i (by omega))
    by_cases e : p = n
    · subst e
      omega
    · have := ih (by omega) (fun i hi => h i (by omega))
      omega
theorem sm_pos {g : Nat → Int} (n : Nat) (h : ∀ i, i < n → 0 ≤ g i) : 0 < sm g n ↔ ∃ i, i < n ∧ 0 < g i := by
  constructor
  · intro h0
    refine Classical.byContradiction (fun hn => ?_)
    have : sm g n = 0 := sm_zero n (fun i hi => by
      have h1 := h i hi
      have h2 : ¬ 0 < g i := fun hp => hn ⟨i, hi, hp⟩
      omega)
    omega
  · intro ⟨i, hi, hp⟩
    have := sm_ge n hi h
    omega
theorem sm_if {g : Nat → Int} {c : Prop} (hd : Decidable c) (n : Nat) : sm (fun k => if c then g k else 0) n = if c then sm g n else 0 := by
  by_cases h : c
  · rw [if_pos h]
    exact sm_congr n (fun i _ => if_pos h)
  · rw [if_neg h]
    exact sm_zero n (fun i _ => if_neg h)
/-- a parent has a lower number -/
def TR (P : List Int) (n : Nat) : Prop := ∀ k : Nat, k < n → -1 ≤ rd P k ∧ rd P k < k
/-- whether a chain of parents goes from k to p through places from q on -/
def rq (P : List Int) (q p : Nat) (k : Nat) : Int :=
  if k = p then 1 else if h : q ≤ k ∧ 0 ≤ rd P k ∧ (rd P k).toNat < k then rq P q p (rd P k).toNat else 0
termination_by k
decreasing_by exact h.2.2
theorem rq_self {P : List Int} {q p : Nat} : rq P q p p = 1 := by rw [rq, if_pos rfl]
theorem rq_lt {P : List Int} {q p : Nat} : ∀ k : Nat, k < p → rq P q p k = 0 := by
  intro k
  induction k using Nat.strongRecOn with
  | _ k ih =>
    intro h
    rw [rq, if_neg (by omega)]
    split
    · rename_i h2
      exact ih _ h2.2.2 (by omega)
    · rfl
theorem rq_low {P : List Int} {q p k : Nat} (h : k ≠ p) (h2 : k < q) : rq P q p k = 0 := by
  rw [rq, if_neg h, dif_neg (by omega)]
theorem rq_none {P : List Int} {q p k : Nat} (h : k ≠ p) (h2 : rd P k < 0) : rq P q p k = 0 := by
  rw [rq, if_neg h, dif_neg (by omega)]
theorem rq_step {P : List Int} {n q p k : Nat} (hT : TR P n) (hk : k < n) (h : k ≠ p) (h1 : q ≤ k) (h2 : 0 ≤ rd P k) : rq P q p k = rq P q p (rd P k).toNat := by
  have := hT k hk
  rw [rq, if_neg h, dif_pos ⟨h1, h2, by omega⟩]
theorem rq_01 {P : List Int} {q p : Nat} : ∀ k : Nat, rq P q p k = 0 ∨ rq P q p k = 1 := by
  intro k
  induction k using Nat.strongRecOn with
  | _ k ih =>
    rw [rq]
    split
    · exact .inr rfl
    · split
      · rename_i h2
        exact ih _ h2.2.2
      · exact .inl rfl
theorem rq_split {P : List Int} {n t : Nat} (hT : TR P n) (ht : t < n) (i : Nat) : ∀ k : Nat, k < n → rq P t i k = rq P (t + 1) i k + (if rd P t = i then rq P (t + 1) t k else 0) := by
  intro k
  induction k using Nat.strongRecOn with
  | _ k ih =>
    intro hk
    have hk' := hT k hk
    have ht' := hT t ht
    by_cases e : k = i
    · subst e
      rw [rq_self, rq_self]
      split
      · rw [rq_lt k (by omega)]
        rfl
      · rfl
    · by_cases e1 : k < t
      · rw [rq_low e e1, rq_low e (by omega), rq_lt k e1]
        split <;> rfl
      · by_cases e2 : k = t
        · subst e2
          rw [rq_low (q := k + 1) e (by omega), rq_self]
          by_cases e3 : 0 ≤ rd P k
          · rw [rq_step hT hk e (by omega) e3]
            by_cases e4 : rd P k = i
            · rw [if_pos e4, show (rd P k).toNat = i by omega, rq_self]
              rfl
            · rw [if_neg e4, rq_low (by omega) (by omega)]
              rfl
          · rw [rq_none e (by omega), if_neg (by omega)]
            rfl
        · by_cases e3 : 0 ≤ rd P k
          · rw [rq_step hT hk e (by omega) e3, rq_step hT hk e (q := t + 1) (by omega) e3, rq_step hT hk e2 (q := t + 1) (by omega) e3]
            exact ih _ (by omega) (by omega)
          · rw [rq_none e (by omega), rq_none e (by omega), rq_none e2 (by omega)]
            split <;> rfl
theorem rq_q {P : List Int} {n q p : Nat} (hT : TR P n) (hq : q ≤ p + 1) : ∀ k : Nat, k < n → rq P q p k = rq P 0 p k := by
  intro k
  induction k using Nat.strongRecOn with
  | _ k ih =>
    intro hk
    have hk' := hT k hk
    by_cases e : k = p
    · subst e
      rw [rq_self, rq_self]
    · by_cases e1 : k < p
      · rw [rq_lt k e1, rq_lt k e1]
      · by_cases e3 : 0 ≤ rd P k
        · rw [rq_step hT hk e (by omega) e3, rq_step hT hk e (by omega) e3]
          exact ih _ (by omega) (by omega)
        · rw [rq_none e (by omega), rq_none e (by omega)]
theorem of_eq {P : List Int} {n p k : Nat} (hT : TR P n) (hk : k < n) : rq P 0 p k = if k = p then 1 else if p < k ∧ 0 ≤ rd P k then rq P 0 p (rd P k).toNat else 0 := by
  by_cases e : k = p
  · subst e
    rw [rq_self, if_pos rfl]
  · rw [if_neg e]
    by_cases e1 : k < p
    · rw [rq_lt k e1, if_neg (by omega)]
    · by_cases e3 : 0 ≤ rd P k
      · rw [rq_step hT hk e (by omega) e3, if_pos (by omega)]
      · rw [rq_none e (by omega), if_neg (by omega)]
theorem of_tr {P : List Int} {n p a : Nat} (hT : TR P n) (hp : p < n) (ha : rd P p = a) : ∀ k : Nat, k < n → rq P 0 p k = 1 → rq P 0 a k = 1 := by
  intro k
  induction k using Nat.strongRecOn with
  | _ k ih =>
    intro hk h
    have hk' := hT k hk
    have hp' := hT p hp
    by_cases e : k = p
    · subst e
      rw [rq_step hT hk (by omega) (by omega) (by omega), show (rd P k).toNat = a by omega, rq_self]
    · by_cases e1 : k < p
      · rw [rq_lt k e1] at h
        omega
      · by_cases e3 : 0 ≤ rd P k
        · rw [rq_step hT hk e (by omega) e3] at h
          by_cases e4 : k = a
          · subst e4
            exact rq_self
          · rw [rq_step hT hk e4 (by omega) e3]
            exact ih _ (by omega) (by omega) h
        · rw [rq_none e (by omega)] at h
          omega
def VV (P : List Int) (n : Nat) (al : Nat → Int) (q p : Nat) : Int := sm (fun k => rq P q p k * al k) n
/-- how many of a person's line live -/
def CN (P : List Int) (n : Nat) (al : Nat → Int) (p : Nat) : Int := VV P n al 0 p
theorem VV_step {P : List Int} {n t : Nat} (al : Nat → Int) (hT : TR P n) (ht : t < n) (i : Nat) : VV P n al t i = VV P n al (t + 1) i + (if rd P t = i then VV P n al (t + 1) t else 0) := by
  unfold VV
  rw [← sm_if, ← sm_add]
  refine sm_congr n (fun k hk => ?_)
  (try dsimp only)
  rw [rq_split hT ht i k hk, Int.add_mul]
  split
  · rfl
  · rw [Int.zero_mul]
theorem VV_top {P : List Int} {n p : Nat} (al : Nat → Int) (hT : TR P n) : VV P n al (p + 1) p = CN P n al p := by
  unfold CN VV
  exact sm_congr n (fun k hk => by (try dsimp only); rw [rq_q hT (by omega) k hk])
theorem VV_n {P : List Int} {n p : Nat} (al : Nat → Int) (hp : p < n) : VV P n al n p = al p := by
  unfold VV
  rw [sm_one n hp (fun i hi he => by rw [rq_low he hi, Int.zero_mul]), rq_self, Int.one_mul]
theorem mul_01 {x y : Int} (hx : x = 0 ∨ x = 1) (hy : y = 0 ∨ y = 1) : (x * y = 0 ∨ x * y = 1) ∧ (0 < x * y ↔ x = 1 ∧ y = 1) := by
  obtain h | h := hx <;> obtain h2 | h2 := hy <;> subst h <;> subst h2 <;> decide
theorem VV_bd {P : List Int} {n q : Nat} {al : Nat → Int} (ha : ∀ p, p < n → al p = 0 ∨ al p = 1) (p : Nat) : 0 ≤ VV P n al q p ∧ VV P n al q p ≤ n := by
  have := sm_bd (g := fun k => rq P q p k * al k) (b := 1) n (fun i hi => by
    have := (mul_01 (rq_01 (P := P) (q := q) (p := p) i) (ha i hi)).1
    (try dsimp only)
    omega)
  unfold VV
  omega
theorem CN_bd {P : List Int} {n : Nat} {al : Nat → Int} (ha : ∀ p, p < n → al p = 0 ∨ al p = 1) (p : Nat) : 0 ≤ CN P n al p ∧ CN P n al p ≤ n := VV_bd ha p
theorem CN_pos {P : List Int} {n : Nat} {al : Nat → Int} (ha : ∀ p, p < n → al p = 0 ∨ al p = 1) (p : Nat) : 0 < CN P n al p ↔ ∃ k, k < n ∧ rq P 0 p k = 1 ∧ al k = 1 := by
  unfold CN VV
  rw [sm_pos n (fun i hi => by have := (mul_01 (rq_01 (P := P) (q := 0) (p := p) i) (ha i hi)).1; omega)]
  constructor
  · intro ⟨k, hk, h⟩
    exact ⟨k, hk, (mul_01 (rq_01 k) (ha k hk)).2.mp h⟩
  · intro ⟨k, hk, h⟩
    exact ⟨k, hk, (mul_01 (rq_01 k) (ha k hk)).2.mpr h⟩
theorem CN_al {P : List Int} {n p : Nat} {al : Nat → Int} (ha : ∀ p, p < n → al p = 0 ∨ al p = 1) (hp : p < n) (h : al p = 1) : 0 < CN P n al p := (CN_pos ha p).mpr ⟨p, hp, rq_self, h⟩
/-- how many children have a line that lives -/
def HT (P : List Int) (n : Nat) (al : Nat → Int) (t p : Nat) : Int := sm (fun c => if t ≤ c ∧ rd P c = p ∧ 0 < CN P n al c then 1 else 0) n
def HR (P : List Int) (n : Nat) (al : Nat → Int) (p : Nat) : Int := HT P n al 0 p
theorem HT_step {P : List Int} {n t : Nat} (al : Nat → Int) (ht : t < n) (p : Nat) : HT P n al t p = HT P n al (t + 1) p + (if rd P t = p ∧ 0 < CN P n al t then 1 else 0) := by
  unfold HT
  have e : (if rd P t = p ∧ 0 < CN P n al t then (1 : Int) else 0) = sm (fun c => if c = t ∧ rd P t = p ∧ 0 < CN P n al t then 1 else 0) n := by
    rw [sm_one n ht (fun i hi he => if_neg (by omega))]
    by_cases h : rd P t = p ∧ 0 < CN P n al t
    · rw [if_pos h, if_pos ⟨rfl, h⟩]
    · rw [if_neg h, if_neg (fun q => h q.2)]
  rw [e, ← sm_add]
  refine sm_congr n (fun c hc => ?_)
  (try dsimp only)
  by_cases e1 : c = t
  · subst e1
    rw [if_neg (c := c + 1 ≤ c ∧ _) (by omega)]
    by_cases h : rd P c = p ∧ 0 < CN P n al c
    · rw [if_pos ⟨Nat.le_refl c, h⟩, if_pos ⟨rfl, h⟩]; rfl
    · rw [if_neg (fun q => h q.2), if_neg (fun q => h q.2)]; rfl
  · rw [if_neg (c := c = t ∧ _) (fun q => e1 q.1), Int.add_zero]
    by_cases h : t ≤ c ∧ rd P c = p ∧ 0 < CN P n al c
    · rw [if_pos h, if_pos ⟨by omega, h.2⟩]
    · rw [if_neg h, if_neg (fun q => h ⟨by omega, q.2⟩)]
theorem HT_n {P : List Int} {n p : Nat} (al : Nat → Int) : HT P n al n p = 0 := sm_zero n (fun i hi => if_neg (by omega))
theorem HT_bd {P : List Int} {n t p : Nat} {al : Nat → Int} : 0 ≤ HT P n al t p ∧ HT P n al t p ≤ n := by
  have := sm_bd (g := fun c : Nat => if t ≤ c ∧ rd P c = p ∧ 0 < CN P n al c then 1 else 0) (b := 1) n (fun i hi => by (try dsimp only); split <;> omega)
  unfold HT
  omega
/-- the share's divisor by stems, as it goes down -/
def SH (P : List Int) (n : Nat) (al : Nat → Int) (root : Nat) (p : Nat) : Int :=
  if p = root then 1 else if h : root < p ∧ 0 ≤ rd P p ∧ (rd P p).toNat < p ∧ al (rd P p).toNat = 0 ∧ 0 < CN P n al p then SH P n al root (rd P p).toNat * HR P n al (rd P p).toNat else 0
termination_by p
decreasing_by exact h.2.2.1
def TS (P : List Int) (n : Nat) (p : Nat) : Int := sm (fun k => rq P 0 p k) n
theorem TS_bd {P : List Int} {n : Nat} (p : Nat) : 0 ≤ TS P n p ∧ TS P n p ≤ n := by
  have := sm_bd (g := fun k => rq P 0 p k) (b := 1) n (fun i hi => by have := rq_01 (P := P) (q := 0) (p := p) i; (try dsimp only); omega)
  unfold TS
  omega
theorem HR_TS {P : List Int} {n p a : Nat} (al : Nat → Int) (hT : TR P n) (hp : p < n) (ha : rd P p = a) : HR P n al a + TS P n p ≤ TS P n a := by
  have hp' := hT p hp
  have e1 : (1 : Int) = sm (fun k => if k = p then 1 else 0) n := by
    rw [sm_one n hp (fun i hi he => if_neg he), if_pos rfl]
  have e2 : (1 : Int) = sm (fun k => if k = a then 1 else 0) n := by
    rw [sm_one (p := a) n (by omega) (fun i hi he => if_neg he), if_pos rfl]
  have h : sm (fun k => (if 0 ≤ k ∧ rd P k = a ∧ 0 < CN P n al k then 1 else 0) + rq P 0 p k + (if k = a then 1 else 0)) n ≤ sm (fun k => rq P 0 a k + (if k = p then 1 else 0)) n := by
    refine sm_le n (fun k hk => ?_)
    (try dsimp only)
    have hk' := hT k hk
    have q1 := rq_01 (P := P) (q := 0) (p := a) k
    have q2 := rq_01 (P := P) (q := 0) (p := p) k
    by_cases c1 : k = a
    · have z1 : rq P 0 p k = 0 := rq_lt k (by omega)
      have z2 : rq P 0 a k = 1 := by rw [c1]; exact rq_self
      rw [z1, z2, if_neg (by omega), if_pos c1, if_neg (by omega)]
      decide
    · rw [if_neg c1]
      by_cases c2 : k = p
      · have z2 : rq P 0 a k = 1 := by
          rw [c2]
          exact of_tr hT hp ha p hp rq_self
        rw [if_pos c2, z2]
        split <;> omega
      · rw [if_neg c2]
        by_cases c3 : rd P k = a
        · have z1 : rq P 0 p k = 0 := by
            rw [rq_step hT hk c2 (by omega) (by omega)]
            exact rq_lt _ (by omega)
          have z2 : rq P 0 a k = 1 := by
            rw [rq_step hT hk c1 (by omega) (by omega), show (rd P k).toNat = a by omega, rq_self]
          rw [z1, z2]
          split <;> omega
        · rw [if_neg (by omega)]
          have := of_tr hT hp ha k hk
          omega
  rw [sm_add, sm_add, sm_add] at h
  have e3 : sm (rq P 0 p) n = TS P n p := rfl
  have e4 : sm (rq P 0 a) n = TS P n a := rfl
  have e6 : sm (fun k => rq P 0 p k) n = TS P n p := rfl
  have e7 : sm (fun k => rq P 0 a k) n = TS P n a := rfl
  have e5 : HR P n al a = sm (fun k => if 0 ≤ k ∧ rd P k = a ∧ 0 < CN P n al k then 1 else 0) n := rfl
  omega
theorem sq_3 (h : Nat) : h ^ 2 ≤ 3 ^ h := by
  induction h with
  | zero => decide
  | succ h ih =>
    rw [Nat.pow_succ 3 h]
    by_cases e : h ≤ 1
    · obtain rfl | rfl : h = 0 ∨ h = 1 := by omega
      · decide
      · decide
    · have : (h + 1) ^ 2 ≤ h ^ 2 * 3 := by
        have e1 : (h + 1) ^ 2 = h * h + 2 * h + 1 := by rw [Nat.pow_two, Nat.add_mul, Nat.mul_add]; omega
        have e2 : h ^ 2 = h * h := Nat.pow_two h
        have e3 : 2 * h ≤ h * h := Nat.mul_le_mul_right h (by omega)
        omega
      omega
theorem SH_nn {P : List Int} {n : Nat} {al : Nat → Int} {root : Nat} : ∀ p : Nat, 0 ≤ SH P n al root p := by
  intro p
  induction p using Nat.strongRecOn with
  | _ p ih =>
    rw [SH]
    split
    · decide
    · split
      · rename_i h
        exact Int.mul_nonneg (ih _ h.2.2.1) HT_bd.1
      · decide
theorem SH_lt {P : List Int} {n : Nat} {al : Nat → Int} {root p : Nat} (h : p < root) : SH P n al root p = 0 := by
  rw [SH, if_neg (by omega), dif_neg (by omega)]
theorem SH_self {P : List Int} {n : Nat} {al : Nat → Int} {root : Nat} : SH P n al root root = 1 := by
  rw [SH, if_pos rfl]
theorem SH_eq {P : List Int} {n : Nat} {al : Nat → Int} {root p : Nat} (hT : TR P n) (hp : p < n) (h : root < p) : SH P n al root p = if 0 ≤ rd P p ∧ al (rd P p).toNat = 0 ∧ 0 < CN P n al p then SH P n al root (rd P p).toNat * HR P n al (rd P p).toNat else 0 := by
  have := hT p hp
  rw [SH, if_neg (by omega)]
  by_cases e : 0 ≤ rd P p ∧ al (rd P p).toNat = 0 ∧ 0 < CN P n al p
  · rw [dif_pos ⟨h, e.1, by omega, e.2⟩, if_pos e]
  · rw [dif_neg (fun q => e ⟨q.2.1, q.2.2.2⟩), if_neg e]
theorem SH_wt {P : List Int} {n : Nat} {al : Nat → Int} {root : Nat} (hT : TR P n) (hn : n ≤ 30) : ∀ p : Nat, p < n → (SH P n al root p).toNat ^ 2 * 3 ^ (TS P n p).toNat ≤ 3 ^ 30 := by
  intro p
  induction p using Nat.strongRecOn with
  | _ p ih =>
    intro hp
    have hp' := hT p hp
    have hb := TS_bd (P := P) (n := n) p
    by_cases e : p = root
    · rw [e, SH_self]
      have hb := TS_bd (P := P) (n := n) root
      have : 3 ^ (TS P n root).toNat ≤ 3 ^ 30 := Nat.pow_le_pow_right (by decide) (by omega)
      have e9 : Int.toNat 1 ^ 2 = 1 := by decide
      rw [e9, Nat.one_mul]
      exact this
    · by_cases e1 : p < root
      · rw [SH_lt e1]
        exact Nat.le_trans (Nat.le_of_eq (Nat.zero_mul _)) (by decide)
      · rw [SH_eq hT hp (by omega)]
        split
        · rename_i h
          have h1 := ih (rd P p).toNat (by omega) (by omega)
          have h2 := HR_TS (a := (rd P p).toNat) al hT hp (by omega)
          have h3 : 0 ≤ HR P n al (rd P p).toNat ∧ HR P n al (rd P p).toNat ≤ n := HT_bd
          have h4 := SH_nn (P := P) (n := n) (al := al) (root := root) (rd P p).toNat
          have hb2 := TS_bd (P := P) (n := n) (rd P p).toNat
          rw [Int.toNat_mul h4 h3.1, Nat.mul_pow, Nat.mul_assoc]
          refine Nat.le_trans (Nat.mul_le_mul_left _ ?_) h1
          have h5 := sq_3 (HR P n al (rd P p).toNat).toNat
          refine Nat.le_trans (Nat.mul_le_mul_right _ h5) ?_
          rw [← Nat.pow_add]
          refine Nat.pow_le_pow_right (by decide) ?_
          have : 0 ≤ HR P n al (rd P p).toNat := h3.1
          omega
        · exact Nat.le_trans (Nat.le_of_eq (Nat.zero_mul _)) (by decide)
theorem SH_bd {P : List Int} {n : Nat} {al : Nat → Int} {root p : Nat} (hT : TR P n) (hn : n ≤ 30) (hp : p < n) : 0 ≤ SH P n al root p ∧ SH P n al root p ≤ 14348907 := by
  have h := SH_wt (al := al) (root := root) hT hn p hp
  have h0 := SH_nn (P := P) (n := n) (al := al) (root := root) p
  have h1 : 1 ≤ 3 ^ (TS P n p).toNat := Nat.one_le_pow _ _ (by decide)
  have h2 : (SH P n al root p).toNat ^ 2 ≤ 3 ^ 30 := Nat.le_trans (Nat.le_trans (Nat.le_of_eq (Nat.mul_one _).symm) (Nat.mul_le_mul_left _ h1)) h
  refine ⟨h0, ?_⟩
  refine Classical.byContradiction (fun hc => ?_)
  have h3 : 14348908 ≤ (SH P n al root p).toNat := by omega
  have h4 : 14348908 * 14348908 ≤ (SH P n al root p).toNat ^ 2 := by rw [Nat.pow_two]; exact Nat.mul_le_mul h3 h3
  have h5 : (3 : Nat) ^ 30 = 205891132094649 := by decide
  omega
/-- the first-born of those marked, among the first m -/
def fb (g : Nat → Int) (B : List Int) : Nat → Int
  | 0 => -1
  | m + 1 => if g m = 1 ∧ (fb g B m = -1 ∨ rd B m < rd B (fb g B m)) then m else fb g B m
theorem fb_bd (g : Nat → Int) (B : List Int) (m : Nat) : -1 ≤ fb g B m ∧ fb g B m < m := by
  induction m with
  | zero =>
    simp only [fb]
    omega
  | succ m ih =>
    simp only [fb]
    split <;> omega
theorem fb_congr {g g' : Nat → Int} (B : List Int) : ∀ m : Nat, (∀ i, i < m → g i = g' i) → fb g B m = fb g' B m
  | 0, _ => rfl
  | m + 1, h => by
    simp only [fb]
    rw [fb_congr B m (fun i hi => h i (by omega)), h m (by omega)]
/-- who lives -/
def LV (yr : Int) (B U D : List Int) (v : Nat → Int) (p : Nat) : Int := if rd B p ≤ yr then (if rd U p = 0 then (if rd D p = -1 ∨ yr < rd D p then 1 else 0) else v p) else 0
theorem LV_01 {yr : Int} {B U D : List Int} {v : Nat → Int} {p : Nat} (h : v p = 0 ∨ v p = 1) : LV yr B U D v p = 0 ∨ LV yr B U D v p = 1 := by
  unfold LV
  split
  · split
    · split <;> omega
    · exact h
  · omega
/-- a share's divisor: 0 is none -/
def SF (P : List Int) (n : Nat) (al : Nat → Int) (how : Int) (root : Nat) (p : Nat) : Int :=
  if CN P n al root = 0 then 0 else if how = 1 then (if rq P 0 root p = 1 ∧ al p = 1 then CN P n al root else 0) else if al p = 1 then SH P n al root p else 0
theorem SF_bd {P : List Int} {n : Nat} {al : Nat → Int} {how : Int} {root p : Nat} (ha : ∀ p, p < n → al p = 0 ∨ al p = 1) (hT : TR P n) (hn : n ≤ 30) (hp : p < n) : 0 ≤ SF P n al how root p ∧ SF P n al how root p ≤ 14348907 := by
  have h1 := SH_bd (al := al) (root := root) hT hn hp
  have h2 := CN_bd (P := P) ha root
  unfold SF
  split
  · omega
  · split
    · split <;> omega
    · split <;> omega
