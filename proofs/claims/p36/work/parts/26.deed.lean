/-- a deed's rows Q: 0 kind, 1 number, 2 root, 3 house, 4 by heads, 5 field, 6 sign, 7 than -/
def S_un (P : List Int) (Q : Nat → List Int) : Nat → Nat → Int
  | 0, _ => 0
  | i + 1, p => if rd (Q 0) i = 1 ∧ rq P 0 (rd (Q 2) i).toNat p = 1 then 1 else S_un P Q i p
def S_ac (n : Nat) (P : List Int) (al : Nat → Int) (Q : Nat → List Int) (e : Nat) : Int := sm (fun p => S_un P Q e p * al p) n
def S_so (yr Y ac : Int) (Q : Nat → List Int) (i : Nat) : Int :=
  if rd (Q 5) i = 0 then 1 else
  if rd (Q 6) i = 61 then (if (if rd (Q 5) i = 1 then yr else if rd (Q 5) i = 2 then Y else ac) = rd (Q 7) i then 1 else 0) else
  if rd (Q 6) i = 60 then (if (if rd (Q 5) i = 1 then yr else if rd (Q 5) i = 2 then Y else ac) < rd (Q 7) i then 1 else 0) else
  (if rd (Q 7) i < (if rd (Q 5) i = 1 then yr else if rd (Q 5) i = 2 then Y else ac) then 1 else 0)
def S_mg (n : Nat) (P B : List Int) (al : Nat → Int) (Q : Nat → List Int) (so : Nat → Int) : Int :=
  if rd (Q 0) 0 = 2 ∧ so 0 = 1 then fb (fun p => rq P 0 (rd (Q 2) 0).toNat p * al p) B n else -1
def S_pm (Y : Int) (Q : Nat → List Int) (mg : Int) : Int := if mg = -1 then 0 else Y * rd (Q 1) 0 / 100
def S_fe (Q : Nat → List Int) (so : Nat → Int) (r : Int) (i : Nat) : Int := if so i = 1 ∧ rd (Q 0) i = 0 then (if rd (Q 1) i < r then rd (Q 1) i else r) else 0
def S_fx (Q : Nat → List Int) (so : Nat → Int) (r : Int) : Nat → Int
  | 0 => r
  | i + 1 => S_fx Q so r i - S_fe Q so (S_fx Q so r i) i
def S_am (n : Nat) (P : List Int) (al : Nat → Int) (Q : Nat → List Int) (lo : Int) (i p : Nat) : Int :=
  if SF P n al (rd (Q 4) i) (rd (Q 2) i).toNat p = 0 then 0 else lo * rd (Q 1) i / (12 * SF P n al (rd (Q 4) i) (rd (Q 2) i).toNat p)
def S_ls (n : Nat) (P : List Int) (al : Nat → Int) (Q : Nat → List Int) (so : Nat → Int) (lo : Int) : Nat → Nat → Int
  | 0, _ => 0
  | i + 1, p => S_ls n P al Q so lo i p + (if so i = 1 ∧ rd (Q 0) i = 1 then S_am n P al Q lo i p else 0)
def S_le (n : Nat) (P : List Int) (al : Nat → Int) (Q : Nat → List Int) (lo : Int) (i : Nat) : Int := sm (fun p => S_am n P al Q lo i p) n
def S_rs (n : Nat) (P : List Int) (al : Nat → Int) (Q : Nat → List Int) (so : Nat → Int) (lo : Int) : Nat → Int
  | 0 => lo
  | i + 1 => S_rs n P al Q so lo i - (if so i = 1 ∧ rd (Q 0) i = 1 then S_le n P al Q lo i else 0)
/-- a deed's year as a whole: tests, manager, left, the ends', the persons' -/
def T_so (n : Nat) (yr Y : Int) (P : List Int) (al : Nat → Int) (Q : Nat → List Int) (e : Nat) (i : Nat) : Int := S_so yr Y (S_ac n P al Q e) Q i
def T_mg (n : Nat) (yr Y : Int) (P B : List Int) (al : Nat → Int) (Q : Nat → List Int) (e : Nat) : Int := S_mg n P B al Q (T_so n yr Y P al Q e)
def T_pm (n : Nat) (yr Y : Int) (P B : List Int) (al : Nat → Int) (Q : Nat → List Int) (e : Nat) : Int := S_pm Y Q (T_mg n yr Y P B al Q e)
def T_fx (n : Nat) (yr Y : Int) (P B : List Int) (al : Nat → Int) (Q : Nat → List Int) (e : Nat) (i : Nat) : Int := S_fx Q (T_so n yr Y P al Q e) (Y - T_pm n yr Y P B al Q e) i
def T_lo (n : Nat) (yr Y : Int) (P B : List Int) (al : Nat → Int) (Q : Nat → List Int) (e : Nat) : Int := T_fx n yr Y P B al Q e e
def T_rs (n : Nat) (yr Y : Int) (P B : List Int) (al : Nat → Int) (Q : Nat → List Int) (e : Nat) (i : Nat) : Int := S_rs n P al Q (T_so n yr Y P al Q e) (T_lo n yr Y P B al Q e) i
/-- what the ends get before the rest is given -/
def T_ge (n : Nat) (yr Y : Int) (P B : List Int) (al : Nat → Int) (Q : Nat → List Int) (e : Nat) (i : Nat) : Int :=
  if rd (Q 0) i = 2 then T_pm n yr Y P B al Q e else
  if rd (Q 0) i = 1 then (if T_so n yr Y P al Q e i = 1 then S_le n P al Q (T_lo n yr Y P B al Q e) i else 0) else
  S_fe Q (T_so n yr Y P al Q e) (T_fx n yr Y P B al Q e i) i
def T_te (n : Nat) (yr Y : Int) (P B : List Int) (al : Nat → Int) (Q : Nat → List Int) (e : Nat) (i : Nat) : Int :=
  if rd (Q 0) i = 3 then T_rs n yr Y P B al Q e e else T_ge n yr Y P B al Q e i
def T_tp (n : Nat) (yr Y : Int) (P B : List Int) (al : Nat → Int) (Q : Nat → List Int) (e : Nat) (p : Nat) : Int :=
  (if T_mg n yr Y P B al Q e = p then T_pm n yr Y P B al Q e else 0) + S_ls n P al Q (T_so n yr Y P al Q e) (T_lo n yr Y P B al Q e) e p
/-- a deed that stands: its rows' bounds -/
def QOK (n : Nat) (Q : Nat → List Int) (e : Nat) : Prop := 1 ≤ e ∧ e ≤ 6 ∧ (∀ j, j < 8 → (Q j).length = 6) ∧ ∀ i : Nat, i < e →
  (rd (Q 0) i = 0 ∨ rd (Q 0) i = 1 ∨ rd (Q 0) i = 2 ∨ rd (Q 0) i = 3) ∧ (rd (Q 0) i = 3 ↔ i + 1 = e) ∧ (rd (Q 0) i = 2 → i = 0 ∧ rd (Q 1) i ≤ 100) ∧
  (rd (Q 0) i = 3 ∨ (0 ≤ rd (Q 1) i ∧ rd (Q 1) i ≤ 9999)) ∧ (rd (Q 0) i = 1 ∨ rd (Q 0) i = 2 → 0 ≤ rd (Q 2) i ∧ rd (Q 2) i < n) ∧
  (rd (Q 0) i = 0 ∨ rd (Q 0) i = 3 → 0 ≤ rd (Q 3) i ∧ rd (Q 3) i < 8) ∧ (rd (Q 0) i = 1 → (rd (Q 4) i = 0 ∨ rd (Q 4) i = 1) ∧ rd (Q 1) i ≤ 12) ∧
  (0 ≤ rd (Q 5) i ∧ rd (Q 5) i ≤ 3)
theorem S_un_01 {P : List Int} {Q : Nat → List Int} (i p : Nat) : S_un P Q i p = 0 ∨ S_un P Q i p = 1 := by
  induction i with
  | zero => exact .inl rfl
  | succ i ih =>
    simp only [S_un]
    split
    · exact .inr rfl
    · exact ih
theorem S_un_cl {P : List Int} {n : Nat} (hT : TR P n) {Q : Nat → List Int} (i : Nat) (hr : ∀ j : Nat, j < i → rd (Q 0) j = 1 → 0 ≤ rd (Q 2) j ∧ rd (Q 2) j < n) (p : Nat) (hp : p < n) (h0 : 0 ≤ rd P p) (h : S_un P Q i (rd P p).toNat = 1) : S_un P Q i p = 1 := by
  induction i with
  | zero => exact absurd h (by simp only [S_un]; decide)
  | succ i ih =>
    simp only [S_un] at h ⊢
    have hTp := hT p hp
    by_cases e : rd (Q 0) i = 1 ∧ rq P 0 (rd (Q 2) i).toNat (rd P p).toNat = 1
    · have : rq P 0 (rd (Q 2) i).toNat p = 1 := by
        by_cases e2 : p = (rd (Q 2) i).toNat
        · rw [← e2]
          exact rq_self
        · rw [rq_step hT hp e2 (by omega) h0]
          exact e.2
      rw [if_pos ⟨e.1, this⟩]
    · rw [if_neg e] at h
      have := ih (fun j hj => hr j (by omega)) h
      split
      · rfl
      · exact this
theorem S_ac_bd {n : Nat} {P : List Int} {al : Nat → Int} {Q : Nat → List Int} {e : Nat} (ha : ∀ p, p < n → al p = 0 ∨ al p = 1) : 0 ≤ S_ac n P al Q e ∧ S_ac n P al Q e ≤ n := by
  have := sm_bd (g := fun p => S_un P Q e p * al p) (b := 1) n (fun j hj => by have := (mul_01 (S_un_01 (P := P) (Q := Q) e j) (ha j hj)).1; (try dsimp only); omega)
  unfold S_ac
  omega
theorem S_so_01 {yr Y ac : Int} {Q : Nat → List Int} (i : Nat) : S_so yr Y ac Q i = 0 ∨ S_so yr Y ac Q i = 1 := by
  unfold S_so
  generalize (if rd (Q 5) i = 1 then yr else if rd (Q 5) i = 2 then Y else ac) = z
  (repeat' split) <;> omega
theorem S_mg_bd {n : Nat} {P B : List Int} {al : Nat → Int} {Q : Nat → List Int} {so : Nat → Int} : -1 ≤ S_mg n P B al Q so ∧ S_mg n P B al Q so < n := by
  unfold S_mg
  split
  · exact fb_bd _ _ _
  · omega
theorem pc_bd {Y k : Int} (hY : 0 ≤ Y) (h0 : 0 ≤ k) (h1 : k ≤ 100) : 0 ≤ Y * k / 100 ∧ Y * k / 100 ≤ Y := by
  have h2 := Int.mul_le_mul_of_nonneg_left h1 hY
  have h3 := Int.mul_nonneg hY h0
  omega
theorem S_pm_bd {Y mg : Int} {Q : Nat → List Int} (hY : 0 ≤ Y) (h : mg ≠ -1 → 0 ≤ rd (Q 1) 0 ∧ rd (Q 1) 0 ≤ 100) : 0 ≤ S_pm Y Q mg ∧ S_pm Y Q mg ≤ Y := by
  unfold S_pm
  split
  · omega
  · rename_i e
    exact pc_bd hY (h e).1 (h e).2
theorem S_fe_bd {Q : Nat → List Int} {so : Nat → Int} {r : Int} {i : Nat} (hr : 0 ≤ r) (h : rd (Q 0) i = 0 → 0 ≤ rd (Q 1) i) : 0 ≤ S_fe Q so r i ∧ S_fe Q so r i ≤ r := by
  unfold S_fe
  split
  · have := h (by omega)
    split <;> omega
  · omega
theorem S_fx_bd {Q : Nat → List Int} {so : Nat → Int} {r : Int} (hr : 0 ≤ r) : ∀ i : Nat, (∀ j : Nat, j < i → rd (Q 0) j = 0 → 0 ≤ rd (Q 1) j) → 0 ≤ S_fx Q so r i ∧ S_fx Q so r i ≤ r
  | 0, _ => ⟨hr, Int.le_refl r⟩
  | i + 1, h => by
    have h1 := S_fx_bd (so := so) hr i (fun j hj => h j (by omega))
    have h2 := S_fe_bd (Q := Q) (so := so) (i := i) h1.1 (h i (by omega))
    simp only [S_fx]
    omega
theorem am_bd {lo k s : Int} (hlo : 0 ≤ lo) (h0 : 0 ≤ k) (h1 : k ≤ 12) (hs : 1 ≤ s) : 0 ≤ lo * k / (12 * s) ∧ lo * k / (12 * s) ≤ lo := by
  refine ⟨Int.ediv_nonneg (Int.mul_nonneg hlo h0) (by omega), ?_⟩
  exact Int.ediv_le_of_le_mul (by omega) (Int.mul_le_mul_of_nonneg_left (by omega) hlo)
theorem S_am_bd {n : Nat} {P : List Int} {al : Nat → Int} {Q : Nat → List Int} {lo : Int} {i p : Nat} (ha : ∀ p, p < n → al p = 0 ∨ al p = 1) (hT : TR P n) (hn : n ≤ 30) (hp : p < n) (hlo : 0 ≤ lo) (h : 0 ≤ rd (Q 1) i ∧ rd (Q 1) i ≤ 12) : 0 ≤ S_am n P al Q lo i p ∧ S_am n P al Q lo i p ≤ lo := by
  have hb := SF_bd (how := rd (Q 4) i) (root := (rd (Q 2) i).toNat) ha hT hn hp
  unfold S_am
  split
  · omega
  · exact am_bd hlo h.1 h.2 (by omega)
theorem S_le_bd {n : Nat} {P : List Int} {al : Nat → Int} {Q : Nat → List Int} {lo : Int} {i : Nat} (ha : ∀ p, p < n → al p = 0 ∨ al p = 1) (hT : TR P n) (hn : n ≤ 30) (hlo : 0 ≤ lo) (h : 0 ≤ rd (Q 1) i ∧ rd (Q 1) i ≤ 12) : 0 ≤ S_le n P al Q lo i ∧ S_le n P al Q lo i ≤ 30 * lo := by
  have := sm_bd (g := fun p => S_am n P al Q lo i p) (b := lo) n (fun j hj => S_am_bd ha hT hn hj hlo h)
  have h2 : (n : Int) * lo ≤ 30 * lo := Int.mul_le_mul_of_nonneg_right (by omega) hlo
  unfold S_le
  omega
theorem S_ls_bd {n : Nat} {P : List Int} {al : Nat → Int} {Q : Nat → List Int} {so : Nat → Int} {lo : Int} {p : Nat} (ha : ∀ p, p < n → al p = 0 ∨ al p = 1) (hT : TR P n) (hn : n ≤ 30) (hp : p < n) (hlo : 0 ≤ lo) : ∀ i : Nat, i ≤ 6 → (∀ j : Nat, j < i → rd (Q 0) j = 1 → 0 ≤ rd (Q 1) j ∧ rd (Q 1) j ≤ 12) → 0 ≤ S_ls n P al Q so lo i p ∧ S_ls n P al Q so lo i p ≤ i * lo
  | 0, _, _ => by simp only [S_ls]; omega
  | i + 1, hi, h => by
    have h1 := S_ls_bd (so := so) ha hT hn hp hlo i (by omega) (fun j hj => h j (by omega))
    have e : ((i + 1 : Nat) : Int) * lo = i * lo + lo := by push_cast; rw [Int.add_mul, Int.one_mul]
    simp only [S_ls]
    rw [e]
    split
    · rename_i q
      have h2 := S_am_bd (Q := Q) (i := i) ha hT hn hp hlo (h i (by omega) q.2)
      omega
    · omega
theorem S_rs_bd {n : Nat} {P : List Int} {al : Nat → Int} {Q : Nat → List Int} {so : Nat → Int} {lo : Int} (ha : ∀ p, p < n → al p = 0 ∨ al p = 1) (hT : TR P n) (hn : n ≤ 30) (hlo : 0 ≤ lo) : ∀ i : Nat, i ≤ 6 → (∀ j : Nat, j < i → rd (Q 0) j = 1 → 0 ≤ rd (Q 1) j ∧ rd (Q 1) j ≤ 12) → lo - i * (30 * lo) ≤ S_rs n P al Q so lo i ∧ S_rs n P al Q so lo i ≤ lo
  | 0, _, _ => by simp only [S_rs]; omega
  | i + 1, hi, h => by
    have h1 := S_rs_bd (so := so) ha hT hn hlo i (by omega) (fun j hj => h j (by omega))
    have e : ((i + 1 : Nat) : Int) * (30 * lo) = i * (30 * lo) + 30 * lo := by push_cast; rw [Int.add_mul, Int.one_mul]
    simp only [S_rs]
    rw [e]
    split
    · rename_i q
      have h2 := S_le_bd (Q := Q) (i := i) ha hT hn hlo (h i (by omega) q.2)
      omega
    · omega
