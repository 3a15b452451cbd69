/-! numbers: the machine's and the abstract machine's -/
theorem am_rng (x : Int32) : -2147483648 ≤ x.toInt ∧ x.toInt < 2147483648 := ⟨Int32.le_toInt x, Int32.toInt_lt x⟩
theorem am_bm {z : Int} (h : inI z) : z.bmod (2 ^ 32) = z := by
  obtain ⟨h1, h2⟩ := h
  rw [Int.bmod_eq_of_le (by omega) (by omega)]
theorem am_bmL {z : Int} (h : inL z) : z.bmod (2 ^ 64) = z := by
  obtain ⟨h1, h2⟩ := h
  rw [Int.bmod_eq_of_le (by omega) (by omega)]
theorem am_ofI {z : Int} (h : inI z) : (Int32.ofInt z).toInt = z := by rw [Int32.toInt_ofInt, am_bm h]
theorem am_add {x y : Int32} (h : inI (x.toInt + y.toInt)) : (x + y).toInt = x.toInt + y.toInt := by rw [Int32.toInt_add, am_bm h]
theorem am_sub {x y : Int32} (h : inI (x.toInt - y.toInt)) : (x - y).toInt = x.toInt - y.toInt := by rw [Int32.toInt_sub, am_bm h]
theorem am_mul {x y : Int32} (h : inI (x.toInt * y.toInt)) : (x * y).toInt = x.toInt * y.toInt := by rw [Int32.toInt_mul, am_bm h]
theorem am_neg {x : Int32} (h : inI (-x.toInt)) : (-x).toInt = -x.toInt := by rw [Int32.toInt_neg, am_bm h]
theorem am_addL {x y : Int64} (h : inL (x.toInt + y.toInt)) : (x + y).toInt = x.toInt + y.toInt := by rw [Int64.toInt_add, am_bmL h]
theorem am_mulL {x y : Int64} (h : inL (x.toInt * y.toInt)) : (x * y).toInt = x.toInt * y.toInt := by rw [Int64.toInt_mul, am_bmL h]
theorem am_div {x y : Int32} (hx : 0 ≤ x.toInt) (hy : 0 < y.toInt) : (x / y).toInt = x.toInt / y.toInt := by
  have h1 := am_rng x
  have h2 : x.toInt / y.toInt ≤ x.toInt := Int.ediv_le_self _ hx
  have h3 : 0 ≤ x.toInt / y.toInt := Int.ediv_nonneg hx (Int.le_of_lt hy)
  rw [Int32.toInt_div, Int.tdiv_eq_ediv_of_nonneg hx, am_bm ⟨by omega, by omega⟩]
theorem am_divL {x y : Int64} (hx : 0 ≤ x.toInt) (hy : 0 < y.toInt) : (x / y).toInt = x.toInt / y.toInt := by
  have h1 := Int64.toInt_lt x
  have h2 : x.toInt / y.toInt ≤ x.toInt := Int.ediv_le_self _ hx
  have h3 : 0 ≤ x.toInt / y.toInt := Int.ediv_nonneg hx (Int.le_of_lt hy)
  rw [Int64.toInt_div, Int.tdiv_eq_ediv_of_nonneg hx, am_bmL ⟨by omega, by omega⟩]
theorem am_ne0 {y : Int32} (hy : 0 < y.toInt) : ¬ y = 0 := by
  intro q
  rw [q] at hy
  simp at hy
theorem am_ne0L {y : Int64} (hy : 0 < y.toInt) : ¬ y = 0 := by
  intro q
  rw [q] at hy
  simp at hy
theorem am_clamp (x : Int32) : x.toNatClampNeg = x.toInt.toNat := rfl
theorem am_nat {x : Int32} {n : Nat} (h : x.toInt = (n : Int)) : x.toNatClampNeg = n := by rw [am_clamp, h]; rfl
theorem am_toNat (x : Int32) : (x.toBitVec.toNat : Int) = x.toInt % 4294967296 := by
  show (x.toBitVec.toNat : Int) = x.toBitVec.toInt % 4294967296
  have h : x.toBitVec.toNat < 4294967296 := x.toBitVec.isLt
  rw [BitVec.toInt_eq_toNat_cond]
  split <;> omega
theorem am_and {x y : Int32} (h : y.toInt = 1 ∨ y.toInt = 63 ∨ y.toInt = 255) : (x &&& y).toInt = x.toInt % (y.toInt + 1) := by
  have hb := am_toNat x
  have key : ∀ (m : Int32) (k : Nat), k ≤ 8 → m.toBitVec.toNat = 2 ^ k - 1 → (x &&& m).toInt = x.toInt % 2 ^ k := by
    intro m k hk hm
    rw [pk_and x k hm, nI_toInt (Nat.lt_of_lt_of_le (Nat.mod_lt _ (Nat.two_pow_pos k)) (Nat.le_trans (Nat.pow_le_pow_right (by decide) hk) (by decide)))]
    rw [Int.natCast_emod, hb]
    have e1 : ((2 ^ k : Nat) : Int) = 2 ^ k := by norm_cast
    rw [e1]
    exact Int.emod_emod_of_dvd _ ⟨2 ^ (32 - k), by rw [← Int.pow_add, show k + (32 - k) = 32 by omega]; rfl⟩
  rcases h with h | h | h
  · have e : y = 1 := Int32.toInt_inj.mp (by rw [h]; rfl)
    subst e
    exact key 1 1 (by decide) rfl
  · have e : y = 63 := Int32.toInt_inj.mp (by rw [h]; rfl)
    subst e
    exact key 63 6 (by decide) rfl
  · have e : y = 255 := Int32.toInt_inj.mp (by rw [h]; rfl)
    subst e
    exact key 255 8 (by decide) rfl
theorem am_nIof {x : Int32} (h : 0 ≤ x.toInt) : x = nI x.toInt.toNat ∧ x.toInt.toNat < 2 ^ 31 := by
  have h1 := am_rng x
  have h2 : x.toInt.toNat < 2 ^ 31 := by omega
  refine ⟨Int32.toInt_inj.mp ?_, h2⟩
  rw [nI_toInt h2]
  omega
theorem am_smod {y : Int32} (h0 : 0 ≤ y.toInt) (h1 : y.toInt < 32) : (y.toBitVec.smod 32).toNat = y.toInt.toNat := by
  obtain ⟨e, -⟩ := am_nIof h0
  have hn : y.toInt.toNat < 32 := by omega
  generalize y.toInt.toNat = n at e hn ⊢
  subst e
  have : ∀ n, n < 32 → ((nI n).toBitVec.smod 32).toNat = n := by decide +kernel
  exact this n hn
theorem am_rem {x y : Int32} (hx : 0 ≤ x.toInt) (hy : 0 < y.toInt) : (x - x / y * y).toInt = x.toInt % y.toInt := by
  have h1 := am_rng x
  have h0 := am_div hx hy
  have h2 : x.toInt / y.toInt * y.toInt ≤ x.toInt := Int.ediv_mul_le _ (by omega)
  have h3 : 0 ≤ x.toInt / y.toInt := Int.ediv_nonneg hx (Int.le_of_lt hy)
  have h4 : 0 ≤ x.toInt / y.toInt * y.toInt := Int.mul_nonneg h3 (by omega)
  have e1 : (x / y * y).toInt = x.toInt / y.toInt * y.toInt := by rw [am_mul (by rw [h0]; exact ⟨by omega, by omega⟩), h0]
  rw [am_sub (by rw [e1]; exact ⟨by omega, by omega⟩), e1, Int.emod_def, Int.mul_comm]
theorem am_bnd (x y : Int32) : (x &&& y).toInt = bnd x.toInt y.toInt := by
  unfold bnd
  rw [Int32.ofInt_toInt, Int32.ofInt_toInt]
theorem am_shr {x y : Int32} (h0 : 0 ≤ y.toInt) (h1 : y.toInt < 32) : (x >>> y).toInt = x.toInt / 2 ^ y.toInt.toNat := by
  rw [pk_shr x y _ (am_smod h0 h1), Int.shiftRight_eq_div_pow]
  norm_cast
theorem am_nor (a b : Nat) : nI a ||| nI b = nI (a ||| b) := by
  apply Int32.toBitVec_inj.1
  show BitVec.ofNat 32 a ||| BitVec.ofNat 32 b = BitVec.ofNat 32 (a ||| b)
  apply BitVec.eq_of_getLsbD_eq
  intro i hi
  simp [hi]
theorem am_or {x y : Int32} (h0 : 0 ≤ x.toInt) (h1 : 0 ≤ y.toInt) : (x ||| y).toInt = ((x.toInt.toNat ||| y.toInt.toNat : Nat) : Int) := by
  obtain ⟨ex, hx⟩ := am_nIof h0
  obtain ⟨ey, hy⟩ := am_nIof h1
  generalize x.toInt.toNat = a at ex hx ⊢
  generalize y.toInt.toNat = b at ey hy ⊢
  rw [ex, ey, am_nor, nI_toInt (Nat.or_lt_two_pow hx hy)]
theorem am_shl {x y : Int32} (h0 : 0 ≤ y.toInt) (h1 : y.toInt < 31) (h2 : 0 ≤ x.toInt) (h3 : x.toInt * 2 ^ y.toInt.toNat ≤ 2147483647) : (x <<< y).toInt = x.toInt * 2 ^ y.toInt.toNat := by
  have hs := am_smod h0 (by omega)
  generalize y.toInt.toNat = k at hs h3 ⊢
  obtain ⟨ex, hx⟩ := am_nIof h2
  have e3 : x.toInt = ((x.toInt.toNat : Nat) : Int) := by omega
  generalize x.toInt.toNat = n at ex hx e3
  rw [e3] at h3 ⊢
  have e4 : (n : Int) * 2 ^ k = ((n * 2 ^ k : Nat) : Int) := by rw [Int.natCast_mul, Int.natCast_pow]; rfl
  rw [e4] at h3 ⊢
  have h5 : n * 2 ^ k < 2 ^ 31 := by
    generalize n * 2 ^ k = N at h3 ⊢
    omega
  rw [ex, pk_shlN y k hs (Nat.lt_trans h5 (by decide)), nI_toInt h5]
theorem am_b01 {x : Int32} (h : x.toInt = 0 ∨ x.toInt = 1) : x = 0 ∨ x = 1 := by
  rcases h with h | h
  · exact Or.inl (Int32.toInt_inj.mp (by rw [h]; rfl))
  · exact Or.inr (Int32.toInt_inj.mp (by rw [h]; rfl))
/-! the relations -/
def VR (ad : Nat → Nat) (ρ : List Nat) : Value → AV → Prop
  | .int x, .inr (.inl z) => x.toInt = z
  | .long x, .inr (.inr (.inl z)) => x.toInt = z
  | .null, .inl none => True
  | .ref a, .inl (some k) => ρ[k]? = some a
  | .ref a, .inr (.inr (.inr n)) => n < 29 ∧ a = ad n
  | _, _ => False
def SR (ad : Nat → Nat) (ρ : List Nat) : List Value → List AV → Prop
  | [], [] => True
  | x :: xs, v :: vs => VR ad ρ x v ∧ SR ad ρ xs vs
  | _, _ => False
def QR (ρ : List Nat) : Option Nat → Option Nat → Prop
  | none, none => True
  | some a, some k => ρ[k]? = some a
  | _, _ => False
def ER (ad : Nat → Nat) (ρ : List Nat) (tys : List (ClassId × FieldType)) : va_E → AE → Prop
  | .inr (ci, fs), .inl (ci', l) => ci = ci' ∧ SR ad ρ fs l
  | .inl (cA, n, .inl f), .inr (.inl (ty, l)) => (ty = .int ∨ ty = .boolean) ∧ (cA, ty) ∈ tys ∧ n = l.length ∧ ∀ j, j < n → (f j).toInt = l.getD j 0
  | .inl (cA, n, .inr (.inl f)), .inr (.inl (ty, l)) => ty = .long ∧ (cA, ty) ∈ tys ∧ n = l.length ∧ ∀ j, j < n → (f j).toInt = l.getD j 0
  | .inl (cA, n, .inr (.inr (.inr (.inr f)))), .inr (.inr l) => (cA, .object "EndowBook$Deed") ∈ tys ∧ n = l.length ∧ ∀ j, j < n → QR ρ (f j) (l.getD j none)
  | _, _ => False
def rho (b : Nat) (ws : va_W) : List Nat := b :: ws.map Prod.fst
def GR (ad : Nat → Nat) (b : Nat) (sc : List Int) (tys : List (ClassId × FieldType)) (ws : va_W) (G : AG) : Prop :=
  ∃ Gt : AG, G = eA .int sc :: Gt ∧ Gt.length = ws.length ∧ ∀ (i : Nat) (q : Nat × va_E) (e : AE), ws[i]? = some q → Gt[i]? = some e → ER ad (rho b ws) tys q.2 e
variable {ad : Nat → Nat} {ρ ρ' : List Nat}
theorem VR.mono {v : Value} {a : AV} (h : VR ad ρ v a) (hp : ρ <+: ρ') : VR ad ρ' v a := by
  obtain ⟨t, rfl⟩ := hp
  rcases a with (_ | k) | z | z | n <;> cases v <;> first | exact h | skip
  rename_i q
  have h' : ρ[k]? = some q := h
  show (ρ ++ t)[k]? = some q
  rw [List.getElem?_append_left (List.getElem?_eq_some_iff.mp h').1]
  exact h'
theorem SR.mono {vs : List Value} {as : List AV} (h : SR ad ρ vs as) (hp : ρ <+: ρ') : SR ad ρ' vs as := by
  induction vs generalizing as with
  | nil => cases as with
    | nil => trivial
    | cons a as => exact h
  | cons v vs ih => cases as with
    | nil => exact h
    | cons a as => exact ⟨h.1.mono hp, ih h.2⟩
theorem QR.mono {o q : Option Nat} (h : QR ρ o q) (hp : ρ <+: ρ') : QR ρ' o q := by
  obtain ⟨t, rfl⟩ := hp
  rcases o with _ | a <;> rcases q with _ | k <;> first | exact h | skip
  have h' : ρ[k]? = some a := h
  show (ρ ++ t)[k]? = some a
  rw [List.getElem?_append_left (List.getElem?_eq_some_iff.mp h').1]
  exact h'
theorem ER.mono {tys tys' : List (ClassId × FieldType)} {q : va_E} {e : AE} (h : ER ad ρ tys q e) (hp : ρ <+: ρ') (ht : ∀ x, x ∈ tys → x ∈ tys') : ER ad ρ' tys' q e := by
  rcases q with ⟨cA, n, f | f | f | f | f⟩ | ⟨ci, fs⟩ <;> rcases e with ⟨ci', l⟩ | ⟨ty, l⟩ | l <;> first | exact h | skip
  · obtain ⟨h1, h2, h3, h4⟩ := h
    exact ⟨h1, ht _ h2, h3, h4⟩
  · obtain ⟨h1, h2, h3, h4⟩ := h
    exact ⟨h1, ht _ h2, h3, h4⟩
  · obtain ⟨h2, h3, h4⟩ := h
    exact ⟨ht _ h2, h3, fun j hj => (h4 j hj).mono hp⟩
  · obtain ⟨h2, h3⟩ := h
    exact ⟨h2, h3.mono hp⟩
theorem VR_I {v : Value} {z : Int} (h : VR ad ρ v (vI z)) : ∃ x : Int32, v = .int x ∧ x.toInt = z := by cases v <;> first | exact ⟨_, rfl, h⟩ | exact absurd h id
theorem VR_J {v : Value} {z : Int} (h : VR ad ρ v (vJ z)) : ∃ x : Int64, v = .long x ∧ x.toInt = z := by cases v <;> first | exact ⟨_, rfl, h⟩ | exact absurd h id
theorem VR_R {v : Value} {k : Nat} (h : VR ad ρ v (vR k)) : ∃ a : Nat, v = .ref a ∧ ρ[k]? = some a := by cases v <;> first | exact ⟨_, rfl, h⟩ | exact absurd h id
theorem VR_N {v : Value} (h : VR ad ρ v vN) : v = .null := by cases v <;> first | rfl | exact absurd h id
theorem VR_S {v : Value} {n : Nat} (h : VR ad ρ v (vS n)) : v = .ref (ad n) ∧ n < 29 := by cases v <;> first | (obtain ⟨h1, h2⟩ := h; exact ⟨by rw [h2], h1⟩) | exact absurd h id
theorem VR_cat {v : Value} {a : AV} (h : VR ad ρ v a) : v.category = acat a := by
  rcases a with (_ | k) | z | z | n <;> cases v <;> first | exact absurd h id | rfl
theorem SR_cons {vs : List Value} {a : AV} {as : List AV} (h : SR ad ρ vs (a :: as)) : ∃ v vs', vs = v :: vs' ∧ VR ad ρ v a ∧ SR ad ρ vs' as := by
  cases vs with
  | nil => exact absurd h id
  | cons v vs => exact ⟨v, vs, rfl, h.1, h.2⟩
theorem SR_nil {vs : List Value} (h : SR ad ρ vs []) : vs = [] := by
  cases vs with
  | nil => rfl
  | cons v vs => exact absurd h id
theorem SR_I {vs : List Value} {z : Int} {as : List AV} (h : SR ad ρ vs (.inr (.inl z) :: as)) : ∃ (x : Int32) (vs' : List Value), vs = .int x :: vs' ∧ x.toInt = z ∧ SR ad ρ vs' as := by
  obtain ⟨v, vs', rfl, h1, h2⟩ := SR_cons h
  obtain ⟨x, rfl, hx⟩ := VR_I h1
  exact ⟨x, vs', rfl, hx, h2⟩
theorem SR_J {vs : List Value} {z : Int} {as : List AV} (h : SR ad ρ vs (.inr (.inr (.inl z)) :: as)) : ∃ (x : Int64) (vs' : List Value), vs = .long x :: vs' ∧ x.toInt = z ∧ SR ad ρ vs' as := by
  obtain ⟨v, vs', rfl, h1, h2⟩ := SR_cons h
  obtain ⟨x, rfl, hx⟩ := VR_J h1
  exact ⟨x, vs', rfl, hx, h2⟩
theorem SR_R {vs : List Value} {k : Nat} {as : List AV} (h : SR ad ρ vs (.inl (some k) :: as)) : ∃ (a : Nat) (vs' : List Value), vs = .ref a :: vs' ∧ ρ[k]? = some a ∧ SR ad ρ vs' as := by
  obtain ⟨v, vs', rfl, h1, h2⟩ := SR_cons h
  obtain ⟨x, rfl, hx⟩ := VR_R h1
  exact ⟨x, vs', rfl, hx, h2⟩
theorem SR_N {vs : List Value} {as : List AV} (h : SR ad ρ vs (.inl none :: as)) : ∃ (vs' : List Value), vs = .null :: vs' ∧ SR ad ρ vs' as := by
  obtain ⟨v, vs', rfl, h1, h2⟩ := SR_cons h
  rw [VR_N h1]
  exact ⟨vs', rfl, h2⟩
theorem SR_S {vs : List Value} {n : Nat} {as : List AV} (h : SR ad ρ vs (.inr (.inr (.inr n)) :: as)) : ∃ (vs' : List Value), vs = .ref (ad n) :: vs' ∧ n < 29 ∧ SR ad ρ vs' as := by
  obtain ⟨v, vs', rfl, h1, h2⟩ := SR_cons h
  obtain ⟨rfl, hn⟩ := VR_S h1
  exact ⟨vs', rfl, hn, h2⟩
theorem SR.nth {vs : List Value} {as : List AV} (h : SR ad ρ vs as) {i : Nat} {a : AV} (hi : as[i]? = some a) : ∃ v, vs[i]? = some v ∧ VR ad ρ v a := by
  induction as generalizing vs i with
  | nil => simp at hi
  | cons a0 as ih =>
    obtain ⟨v, vs', rfl, h1, h2⟩ := SR_cons h
    cases i with
    | zero => simp at hi; subst hi; exact ⟨v, by simp, h1⟩
    | succ i => simp at hi; obtain ⟨w, hw, hv⟩ := ih h2 hi; exact ⟨w, by simpa using hw, hv⟩
theorem SR.len {vs : List Value} {as : List AV} (h : SR ad ρ vs as) : vs.length = as.length := by
  induction as generalizing vs with
  | nil => rw [SR_nil h]; rfl
  | cons a0 as ih =>
    obtain ⟨v, vs', rfl, h1, h2⟩ := SR_cons h
    simp [ih h2]
theorem SR.set {vs : List Value} {as : List AV} (h : SR ad ρ vs as) (i : Nat) {v : Value} {a : AV} (hv : VR ad ρ v a) : SR ad ρ (vs.set i v) (as.set i a) := by
  induction as generalizing vs i with
  | nil => rw [SR_nil h]; exact trivial
  | cons a0 as ih =>
    obtain ⟨w, vs', rfl, h1, h2⟩ := SR_cons h
    cases i with
    | zero => exact ⟨hv, h2⟩
    | succ i => exact ⟨h1, ih h2 i⟩
theorem SR.app {vs ws : List Value} {as bs : List AV} (h : SR ad ρ vs as) (h2 : SR ad ρ ws bs) : SR ad ρ (vs ++ ws) (as ++ bs) := by
  induction as generalizing vs with
  | nil => rw [SR_nil h]; exact h2
  | cons a0 as ih =>
    obtain ⟨w, vs', rfl, h1, h3⟩ := SR_cons h
    exact ⟨h1, ih h3⟩
theorem SR.split {vs : List Value} {as : List AV} (h : SR ad ρ vs as) (n : Nat) : SR ad ρ (vs.take n) (as.take n) ∧ SR ad ρ (vs.drop n) (as.drop n) := by
  induction as generalizing vs n with
  | nil => rw [SR_nil h]; simp; exact trivial
  | cons a0 as ih =>
    obtain ⟨w, vs', rfl, h1, h3⟩ := SR_cons h
    cases n with
    | zero => exact ⟨trivial, h⟩
    | succ n => exact ⟨⟨h1, (ih h3 n).1⟩, (ih h3 n).2⟩
theorem SR.rev {vs : List Value} {as : List AV} (h : SR ad ρ vs as) : SR ad ρ vs.reverse as.reverse := by
  induction as generalizing vs with
  | nil => rw [SR_nil h]; exact trivial
  | cons a0 as ih =>
    obtain ⟨w, vs', rfl, h1, h3⟩ := SR_cons h
    rw [List.reverse_cons, List.reverse_cons]
    exact (ih h3).app ⟨h1, trivial⟩
theorem SR.cats {vs : List Value} {as : List AV} (h : SR ad ρ vs as) : (vs.map fun v => v.category).sum = acats as := by
  induction as generalizing vs with
  | nil => rw [SR_nil h]; rfl
  | cons a0 as ih =>
    obtain ⟨w, vs', rfl, h1, h3⟩ := SR_cons h
    simp only [List.map_cons, List.sum_cons, acats]
    rw [ih h3, VR_cat h1]
/-! locals -/
def LR (ad : Nat → Nat) (ρ : List Nat) (lg : Bool) (nL : Nat) (ls : Array Slot) (L : List (Option AV)) : Prop :=
  ls.size = nL ∧ lv_wf ls ∧ L.length = nL ∧ ∀ (i : Nat) (a : AV), L[i]? = some (some a) → (lg = true ∨ acat a = 1) ∧ ∃ v : Value, ls[i]? = some (.val v) ∧ VR ad ρ v a
theorem LR.mono {lg : Bool} {nL : Nat} {ls : Array Slot} {L : List (Option AV)} (h : LR ad ρ lg nL ls L) (hp : ρ <+: ρ') : LR ad ρ' lg nL ls L :=
  ⟨h.1, h.2.1, h.2.2.1, fun i a hi => by obtain ⟨h1, v, h2, h3⟩ := h.2.2.2 i a hi; exact ⟨h1, v, h2, h3.mono hp⟩⟩
def lvAll (ls : Array Slot) : List (Nat × Value) := (List.range ls.size).filterMap fun (i : Nat) => match ls[i]? with | some (.val v) => some (i, v) | _ => none
theorem lvAll_mem {ls : Array Slot} {i : Nat} {v : Value} : (i, v) ∈ lvAll ls ↔ ls[i]? = some (.val v) := by
  unfold lvAll
  rw [List.mem_filterMap]
  constructor
  · rintro ⟨j, -, hj⟩
    split at hj
    · rename_i w hw
      cases hj
      exact hw
    · cases hj
  · intro h
    refine ⟨i, List.mem_range.mpr (Array.getElem?_eq_some_iff.mp h).1, ?_⟩
    rw [h]
theorem LR.has {lg : Bool} {nL : Nat} {ls : Array Slot} {L : List (Option AV)} (h : LR ad ρ lg nL ls L) : lv_has ls nL (lvAll ls) := ⟨h.1, h.2.1, fun q hq => lvAll_mem.mp hq⟩
/-- behind a store of one word -/
theorem LR.put {lg : Bool} {nL : Nat} {ls ls' : Array Slot} {L : List (Option AV)} (h : LR ad ρ lg nL ls L) {i : Nat} {v : Value} {a : AV} (hv : VR ad ρ v a) (ha : acat a = 1) (hj0 : (lg && isJ (nth L (i - 1))) = false)
    (h' : lv_has ls' nL ((i, v) :: (lvAll ls).filter (fun q => !(q.1 == i) && !(q.1 + 1 == i && q.2.category == 2)))) : LR ad ρ lg nL ls' (L.set i (some a)) := by
  refine ⟨h'.1, h'.2.1, by rw [List.length_set]; exact h.2.2.1, fun j c hj => ?_⟩
  by_cases e : j = i
  · subst e
    have hl : j < L.length := by
      have := (List.getElem?_eq_some_iff.mp hj).1
      simpa using this
    rw [List.getElem?_set_self hl] at hj
    cases hj
    exact ⟨Or.inr ha, v, h'.2.2 (j, v) List.mem_cons_self, hv⟩
  · rw [List.getElem?_set_ne (Ne.symm e)] at hj
    obtain ⟨h1, w, h2, h3⟩ := h.2.2.2 j c hj
    refine ⟨h1, w, h'.2.2 (j, w) (List.mem_cons_of_mem _ (List.mem_filter.mpr ⟨lvAll_mem.mpr h2, ?_⟩)), h3⟩
    have hc : w.category = acat c := VR_cat h3
    by_cases e1 : j + 1 = i
    · have hc1 : acat c = 1 := by
        rcases h1 with h1 | h1
        · rw [h1, ← e1, nth_eq, Nat.add_sub_cancel, hj] at hj0
          rcases c with c | c | c | c
          · rfl
          · rfl
          · exact absurd hj0 (by simp [isJ])
          · rfl
        · exact h1
      simp [e, hc, hc1]
    · simp [e, e1]
/-- behind a store of two words -/
theorem LR.put2 {lg : Bool} {nL : Nat} {ls ls' : Array Slot} {L : List (Option AV)} (h : LR ad ρ lg nL ls L) (hlg : lg = true) {i : Nat} {v : Value} {a : AV} (hv : VR ad ρ v a) (hj0 : isJ (nth L (i - 1)) = false)
    (h' : lv_has ls' nL ((i, v) :: (lvAll ls).filter (fun q => !(q.1 == i) && (!(q.1 == i + 1) && !(q.1 + 1 == i && q.2.category == 2))))) : LR ad ρ lg nL ls' ((L.set (i + 1) none).set i (some a)) := by
  refine ⟨h'.1, h'.2.1, by rw [List.length_set, List.length_set]; exact h.2.2.1, fun j c hj => ?_⟩
  by_cases e : j = i
  · subst e
    have hl : j < (L.set (j + 1) none).length := by
      have := (List.getElem?_eq_some_iff.mp hj).1
      simpa using this
    rw [List.getElem?_set_self hl] at hj
    cases hj
    exact ⟨Or.inl hlg, v, h'.2.2 (j, v) List.mem_cons_self, hv⟩
  · rw [List.getElem?_set_ne (Ne.symm e)] at hj
    by_cases e2 : j = i + 1
    · subst e2
      have hl : i + 1 < L.length := by
        have := (List.getElem?_eq_some_iff.mp hj).1
        simpa using this
      rw [List.getElem?_set_self hl] at hj
      cases hj
    · rw [List.getElem?_set_ne (Ne.symm e2)] at hj
      obtain ⟨h1, w, h2, h3⟩ := h.2.2.2 j c hj
      refine ⟨h1, w, h'.2.2 (j, w) (List.mem_cons_of_mem _ (List.mem_filter.mpr ⟨lvAll_mem.mpr h2, ?_⟩)), h3⟩
      have hc : w.category = acat c := VR_cat h3
      by_cases e1 : j + 1 = i
      · have hc1 : acat c = 1 := by
          rw [← e1, nth_eq, Nat.add_sub_cancel, hj] at hj0
          rcases c with c | c | c | c
          · rfl
          · rfl
          · exact absurd hj0 (by simp [isJ])
          · rfl
        simp [e, e2, hc, hc1]
      · simp [e, e1, e2]
theorem LR.lt {lg : Bool} {nL : Nat} {ls : Array Slot} {L : List (Option AV)} (h : LR ad ρ lg nL ls L) {i : Nat} {o : Option AV} (hi : nth L i = some o) : i < nL := by
  rw [nth_eq] at hi
  rw [← h.2.2.1]
  exact (List.getElem?_eq_some_iff.mp hi).1
theorem am_args (vs : List Value) (h : ∀ v ∈ vs, v.category = 1) : ∀ i j v, vs[j]? = some v → (i + j, v) ∈ lv_args i vs := by
  induction vs with
  | nil => intro i j v hv; simp at hv
  | cons w vs ih =>
    intro i j v hv
    have hw : w.category = 1 := h w List.mem_cons_self
    cases j with
    | zero => simp at hv; subst hv; exact List.mem_cons_self
    | succ j =>
      simp at hv
      unfold lv_args
      rw [if_neg (by omega)]
      have := ih (fun x hx => h x (List.mem_cons_of_mem _ hx)) (i + 1) j v hv
      rw [show i + (j + 1) = i + 1 + j by omega]
      exact List.mem_cons_of_mem _ this
theorem am_lgsl (vs : List Value) (h : ∀ v ∈ vs, v.category = 1) : (lg_sl vs).length = vs.length := by
  induction vs with
  | nil => rfl
  | cons w vs ih =>
    have hw : w.category = 1 := h w List.mem_cons_self
    have h2 := ih (fun x hx => h x (List.mem_cons_of_mem _ hx))
    unfold lg_sl at h2 ⊢
    rw [List.flatMap_cons, if_neg (by omega), List.length_append, h2]
    simp
    omega
theorem aone_cat {as : List AV} (h : aone as = true) : ∀ a ∈ as, acat a = 1 := by
  induction as with
  | nil => intro a ha; cases ha
  | cons b as ih =>
    simp only [aone, Bool.and_eq_true, Nat.beq_eq] at h
    intro a ha
    rcases List.mem_cons.mp ha with rfl | ha
    · exact h.1
    · exact ih h.2 a ha
theorem SR.cat1 {vs : List Value} {as : List AV} (h : SR ad ρ vs as) (h1 : ∀ a ∈ as, acat a = 1) : ∀ v ∈ vs, v.category = 1 := by
  induction as generalizing vs with
  | nil => rw [SR_nil h]; intro v hv; cases hv
  | cons a0 as ih =>
    obtain ⟨w, vs', rfl, h2, h3⟩ := SR_cons h
    intro v hv
    rcases List.mem_cons.mp hv with rfl | hv
    · rw [VR_cat h2]; exact h1 a0 List.mem_cons_self
    · exact ih h3 (fun a ha => h1 a (List.mem_cons_of_mem _ ha)) v hv
/-- a method's entry -/
theorem LR.entry {j : Nat} {vs : List Value} {as : List AV} (h : SR ad ρ vs as) (h1 : ∀ a ∈ as, acat a = 1) (hn : as.length ≤ mL j) :
    LR ad ρ (lgK j) (mL j) ((lg_sl vs ++ List.replicate (mL j - (lg_sl vs).length) Slot.unset).toArray) (L0 j as) := by
  have hc := h.cat1 h1
  have hl : (lg_sl vs).length = vs.length := am_lgsl vs hc
  have hlen := h.len
  have hh := lv_entry vs (n := mL j) (by omega)
  refine ⟨hh.1, hh.2.1, by simp [L0]; omega, fun i a hi => ?_⟩
  unfold L0 at hi
  by_cases e : i < as.length
  · rw [List.getElem?_append_left (by simpa using e), List.getElem?_map] at hi
    cases ha : as[i]? with
    | none => rw [ha] at hi; cases hi
    | some a' =>
      rw [ha] at hi
      cases hi
      obtain ⟨v, hv, hV⟩ := h.nth ha
      have hm := am_args vs hc 0 i v hv
      rw [Nat.zero_add] at hm
      exact ⟨Or.inr (h1 a (List.mem_of_getElem? ha)), v, hh.2.2 (i, v) hm, hV⟩
  · rw [List.getElem?_append_right (by simpa using e)] at hi
    have := List.mem_of_getElem? hi
    rw [List.mem_replicate] at this
    cases this.2
