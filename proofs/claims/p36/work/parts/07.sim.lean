/-! what a method stands on, and what an abstract frame says of the machine -/
def CX (p : Program) (s : State) (m : MethodId) (args : Array Value) (meth : Method) (c : Code) (k : Nat) : Prop :=
  p.tables.exec = Jvm.exec ∧ c.code = mB k ∧ c.maxLocals = mL k ∧ s.vm.findClass (am_R (mO k)) = some m.cls ∧ (∀ w ∈ WG, w.before args s = true) ∧ (mIn k = true → meth.name = "<init>")
def RM (R : Room) (k : Nat) : Prop := mF k ≤ R.frames ∧ mLo k ≤ R.locals ∧ mC k ≤ R.cells ∧ mS k ≤ R.slots
/-- the texts, as the heap holds them -/
def am_byt : List (List Int32) := am_SLT.map fun q => q.2.toList.map fun ch => Int32.ofNat ch.toNat
def am_lns : List Nat := am_SLT.map fun q => q.2.toList.length
def vk_1 (adK adV : Nat → Nat) (A : Nat → Prop) (U : State) (H : Heap) : Prop :=
  (∀ i : Nat, i < 29 → va_O "java/lang/String" (adK i) A U H ∧ va_OF "java/lang/String" "coder" "B" (.int 0) (adK i) A U H ∧ va_OF "java/lang/String" "value" "[B" (.ref (adV i)) (adK i) A U H ∧ va_T .byte (adV i) (am_lns.getD i 0) (fun j => .int ((am_byt.getD i []).getD j 0)) A U H) ∧ True
/-- a static row of bytes -/
def vk_D (n : String) (f : Nat → Int32) (A : Nat → Prop) (U : State) (H : Heap) : Prop := ∃ t : Nat, va_Z "java/lang/Integer" n "[B" (.ref t) A U H ∧ va_T .byte t 100 (fun j => .int (f j)) A U H
def dgO (j : Nat) : Int32 := nI (48 + j % 10)
def dgT (j : Nat) : Int32 := nI (48 + j / 10)
def am_SO (i : Nat) : String := bif Nat.blt i 14 then RX4 else RL
def ST (ad : Nat → Nat) (A : Nat → Prop) (U : State) (H : Heap) : Prop :=
  (∃ adV : Nat → Nat, vk_1 ad adV A U H) ∧ (∀ (i n : Nat) (tx : String), am_SLT[i]? = some (n, tx) → vk_R (am_SO i) n tx (ad i) U) ∧ va_Z "java/lang/String" "COMPACT_STRINGS" "Z" (.int 1) A U H ∧ va_Zq "jdk/internal/util/Preconditions" "SIOOBE_FORMATTER" "Ljava/util/function/BiFunction;" A U H ∧ vk_D "DigitOnes" dgO A U H ∧ vk_D "DigitTens" dgT A U H
def NS (U : State) : Prop := (∀ p o n j pl : Nat, am_MLT[p]? = some (o, n, 2, j, pl) → va_Nw (.methodLinkNest (am_R o) n (mY j) RX6) U) ∧ va_AO RX0 U ∧ va_Nw (.castable "[B" "java/lang/Cloneable") U
def FX (ad : Nat → Nat) (b : Nat) (sc : List Int) (A : Nat → Prop) (s : State) : Prop :=
  (∀ q, s.heap.size ≤ q → A q) ∧ ¬ A b ∧ b < s.heap.size ∧ (∃ xs : Nat → Int32, va_X b sc.length xs s s.heap ∧ ∀ j, j < sc.length → (xs j).toInt = sc.getD j 0) ∧ ST ad A s s.heap ∧ NS s
def CT (p : Program) (R : Room) (s : State) (m : MethodId) (args : Array Value) (meth : Method) (c : Code) (k : Nat) (ad : Nat → Nat) (b : Nat) (sc : List Int) (A : Nat → Prop) : Prop :=
  CX p s m args meth c k ∧ RM R k ∧ FX ad b sc A s
def IN (D : va_G) (ad : Nat → Nat) (b : Nat) (sc : List Int) (A : Nat → Prop) (s : State) (H : Heap) (locs : List Loc) (ws : va_W) (tys : List (ClassId × FieldType)) (G : AG) : Prop :=
  va_K D vwCl tys s ∧ va_P D vwCl ws H ∧ va_D A ws ∧ va_S A s.heap H locs ∧ GR ad b sc tys ws G
/-- from every state of the machine that an abstract frame pictures, Q is come to -/
def OK (p : Program) (l : Launch) (e : Env) (R : Room) (s : State) (m : MethodId) (args : Array Value) (below : List Frame) (meth : Method) (c : Code) (Q : State → Prop) (D : va_G) (ad : Nat → Nat) (b : Nat) (sc : List Int) (A : Nat → Prop) (k : Nat) (ρ0 : List Nat) (f : AF) : Prop :=
  ∀ (ws : va_W) (tys : List (ClassId × FieldType)) (H : Heap) (locs : List Loc) (ls : Array Slot) (sst : List Value), f.2.2.2.2.1 ≤ mC k → f.2.2.2.2.2 ≤ mS k → IN D ad b sc A s H locs ws tys f.2.2.2.1 → LR ad (rho b ws) (lgK k) (mL k) ls f.2.1 → SR ad (rho b ws) sst f.2.2.1 → ρ0 <+: rho b ws →
    W p l e R s m args below meth c H locs f.2.2.2.2.1 f.2.2.2.2.2 Q (F0 m f.1 ls sst)
/-! cells by their places -/
theorem rho_set {b : Nat} {ws : va_W} {x a : Nat} {q0 q : va_E} (h : ws[x]? = some (a, q0)) : rho b (ws.set x (a, q)) = rho b ws := by
  unfold rho
  rw [List.map_set]
  congr 1
  refine List.ext_getElem? fun i => ?_
  by_cases e : i = x
  · subst e
    have hl := (List.getElem?_eq_some_iff.mp h).1
    rw [List.getElem?_set_self (by simpa using hl), List.getElem?_map, h]
    rfl
  · rw [List.getElem?_set_ne (Ne.symm e)]
theorem rho_push {b : Nat} {ws : va_W} {x : Nat × va_E} : rho b ws <+: rho b (ws ++ [x]) := ⟨[x.1], by simp [rho]⟩
theorem GR_at {ad : Nat → Nat} {b : Nat} {sc : List Int} {tys : List (ClassId × FieldType)} {ws : va_W} {G : AG} (h : GR ad b sc tys ws G) {x : Nat} {e : AE} (hx : nth G (x + 1) = some e) {a : Nat} (hr : (rho b ws)[x + 1]? = some a) :
    ∃ q : va_E, ws[x]? = some (a, q) ∧ ER ad (rho b ws) tys q e := by
  obtain ⟨Gt, rfl, hl, hE⟩ := h
  rw [nth_eq] at hx
  have hx' : Gt[x]? = some e := by simpa using hx
  have hr' : (ws.map Prod.fst)[x]? = some a := by simpa [rho] using hr
  rw [List.getElem?_map] at hr'
  cases hw : ws[x]? with
  | none => rw [hw] at hr'; cases hr'
  | some q =>
    rw [hw] at hr'
    obtain ⟨a', q'⟩ := q
    cases hr'
    exact ⟨q', rfl, hE x _ e hw hx'⟩
theorem GR_set {ad : Nat → Nat} {b : Nat} {sc : List Int} {tys : List (ClassId × FieldType)} {ws : va_W} {G : AG} (h : GR ad b sc tys ws G) {x a : Nat} {q0 q : va_E} {e : AE} (he : ws[x]? = some (a, q0)) (hE : ER ad (rho b ws) tys q e) : GR ad b sc tys (ws.set x (a, q)) (upl G (x + 1) e) := by
  obtain ⟨Gt, rfl, hl, hG⟩ := h
  refine ⟨Gt.set x e, by rw [upl_eq]; rfl, by simp [hl], fun i q' e' hi hi' => ?_⟩
  rw [rho_set he]
  by_cases hx : i = x
  · subst hx
    have h1 := (List.getElem?_eq_some_iff.mp he).1
    rw [List.getElem?_set_self h1] at hi
    rw [List.getElem?_set_self (by omega)] at hi'
    cases hi
    cases hi'
    exact hE
  · rw [List.getElem?_set_ne (Ne.symm hx)] at hi hi'
    exact hG i q' e' hi hi'
theorem GR_push {ad : Nat → Nat} {b : Nat} {sc : List Int} {tys tys' : List (ClassId × FieldType)} {ws : va_W} {G : AG} (h : GR ad b sc tys ws G) {a : Nat} {q : va_E} {e : AE} (ht : ∀ x, x ∈ tys → x ∈ tys') (hE : ER ad (rho b (ws ++ [(a, q)])) tys' q e) : GR ad b sc tys' (ws ++ [(a, q)]) (G ++ [e]) := by
  obtain ⟨Gt, rfl, hl, hG⟩ := h
  refine ⟨Gt ++ [e], rfl, by simp [hl], fun i q' e' hi hi' => ?_⟩
  by_cases hx : i < ws.length
  · rw [List.getElem?_append_left hx] at hi
    rw [List.getElem?_append_left (by omega)] at hi'
    exact (hG i q' e' hi hi').mono rho_push ht
  · have h1 := (List.getElem?_eq_some_iff.mp hi).1
    have h2 : i = ws.length := by simp at h1; omega
    subst h2
    rw [List.getElem?_append_right (Nat.le_refl _), Nat.sub_self] at hi
    rw [List.getElem?_append_right (by omega), hl, Nat.sub_self] at hi'
    cases hi
    cases hi'
    exact hE
theorem GR_len {ad : Nat → Nat} {b : Nat} {sc : List Int} {tys : List (ClassId × FieldType)} {ws : va_W} {G : AG} (h : GR ad b sc tys ws G) (a : Nat) (q : va_E) : (rho b (ws ++ [(a, q)]))[G.length]? = some a := by
  obtain ⟨Gt, rfl, hl, -⟩ := h
  simp [rho, ← hl]
theorem GR_obj {ad : Nat → Nat} {b : Nat} {sc : List Int} {tys : List (ClassId × FieldType)} {ws : va_W} {G : AG} (h : GR ad b sc tys ws G) {x ci : Nat} {fs : List AV} (hx : nth G (x + 1) = some (.inl (ci, fs))) {a : Nat} (hr : (rho b ws)[x + 1]? = some a) :
    ∃ vs : List Value, ws[x]? = some (a, .inr (ci, vs)) ∧ SR ad (rho b ws) vs fs := by
  obtain ⟨q, h1, h2⟩ := GR_at h hx hr
  rcases q with ⟨cA, n, f | f | f | f | f⟩ | ⟨ci', vs⟩ <;> first | exact absurd h2 id | skip
  obtain ⟨rfl, h3⟩ := h2
  exact ⟨vs, h1, h3⟩
theorem GR_int {ad : Nat → Nat} {b : Nat} {sc : List Int} {tys : List (ClassId × FieldType)} {ws : va_W} {G : AG} (h : GR ad b sc tys ws G) {x : Nat} {ty : FieldType} {l : List Int} (hx : nth G (x + 1) = some (.inr (.inl (ty, l)))) {a : Nat} (hr : (rho b ws)[x + 1]? = some a) (hty : ty = .int ∨ ty = .boolean) :
    ∃ (cA : ClassId) (f : Nat → Int32), ws[x]? = some (a, .inl (cA, l.length, .inl f)) ∧ (∃ t0 : Nat, tys[t0]? = some (cA, ty)) ∧ ∀ j, j < l.length → (f j).toInt = l.getD j 0 := by
  obtain ⟨q, h1, h2⟩ := GR_at h hx hr
  rcases q with ⟨cA, n, f | f | f | f | f⟩ | ⟨ci', vs⟩ <;> first | exact absurd h2 id | skip
  · obtain ⟨-, h3, rfl, h4⟩ := h2
    exact ⟨cA, f, h1, List.getElem?_of_mem h3, h4⟩
  · obtain ⟨rfl, -⟩ := h2
    rcases hty with hty | hty <;> cases hty
theorem GR_long {ad : Nat → Nat} {b : Nat} {sc : List Int} {tys : List (ClassId × FieldType)} {ws : va_W} {G : AG} (h : GR ad b sc tys ws G) {x : Nat} {l : List Int} (hx : nth G (x + 1) = some (.inr (.inl (.long, l)))) {a : Nat} (hr : (rho b ws)[x + 1]? = some a) :
    ∃ (cA : ClassId) (f : Nat → Int64), ws[x]? = some (a, .inl (cA, l.length, .inr (.inl f))) ∧ (∃ t0 : Nat, tys[t0]? = some (cA, FieldType.long)) ∧ ∀ j, j < l.length → (f j).toInt = l.getD j 0 := by
  obtain ⟨q, h1, h2⟩ := GR_at h hx hr
  rcases q with ⟨cA, n, f | f | f | f | f⟩ | ⟨ci', vs⟩ <;> first | exact absurd h2 id | skip
  · obtain ⟨h0, -⟩ := h2
    rcases h0 with h0 | h0 <;> cases h0
  · obtain ⟨-, h3, rfl, h4⟩ := h2
    exact ⟨cA, f, h1, List.getElem?_of_mem h3, h4⟩
theorem GR_ref {ad : Nat → Nat} {b : Nat} {sc : List Int} {tys : List (ClassId × FieldType)} {ws : va_W} {G : AG} (h : GR ad b sc tys ws G) {x : Nat} {l : List (Option Nat)} (hx : nth G (x + 1) = some (.inr (.inr l))) {a : Nat} (hr : (rho b ws)[x + 1]? = some a) :
    ∃ (cA : ClassId) (f : Nat → Option Nat), ws[x]? = some (a, .inl (cA, l.length, .inr (.inr (.inr (.inr f))))) ∧ (∃ t0 : Nat, tys[t0]? = some (cA, FieldType.object "EndowBook$Deed")) ∧ ∀ j, j < l.length → QR (rho b ws) (f j) (l.getD j none) := by
  obtain ⟨q, h1, h2⟩ := GR_at h hx hr
  rcases q with ⟨cA, n, f | f | f | f | f⟩ | ⟨ci', vs⟩ <;> first | exact absurd h2 id | skip
  obtain ⟨h3, rfl, h4⟩ := h2
  exact ⟨cA, f, h1, List.getElem?_of_mem h3, h4⟩
theorem am_in {x : Int32} {z : Int} {n : Nat} (h : x.toInt = z) (h0 : 0 ≤ z) (h1 : z < n) : vp_in x n := vp_in_iff.mpr ⟨by omega, by omega⟩
theorem am_upd {f : Nat → Int32} {l : List Int} (hf : ∀ j, j < l.length → (f j).toInt = l.getD j 0) {x i : Int32} {z v : Int} (hx : x.toInt = z) (hi : i.toInt = v) : ∀ j, j < (wr l z v).length → (upd f x.toNatClampNeg i j).toInt = (wr l z v).getD j 0 := by
  intro j hj
  have hj' : j < l.length := by simpa [wr] using hj
  unfold upd wr
  rw [am_clamp, hx, List.getD_eq_getElem?_getD, List.getElem?_set]
  by_cases e : j = z.toNat
  · subst e
    simp [hj', hi]
  · rw [if_neg e, if_neg (Ne.symm e), ← List.getD_eq_getElem?_getD]
    exact hf j hj'
theorem am_updL {f : Nat → Int64} {l : List Int} (hf : ∀ j, j < l.length → (f j).toInt = l.getD j 0) {x : Int32} {i : Int64} {z v : Int} (hx : x.toInt = z) (hi : i.toInt = v) : ∀ j, j < (wr l z v).length → (vp_updL f x.toNatClampNeg i j).toInt = (wr l z v).getD j 0 := by
  intro j hj
  have hj' : j < l.length := by simpa [wr] using hj
  unfold vp_updL wr
  rw [am_clamp, hx, List.getD_eq_getElem?_getD, List.getElem?_set]
  by_cases e : j = z.toNat
  · subst e
    simp [hj', hi]
  · rw [if_neg e, if_neg (Ne.symm e), ← List.getD_eq_getElem?_getD]
    exact hf j hj'
theorem am_rd {f : Nat → Int32} {l : List Int} (hf : ∀ j, j < l.length → (f j).toInt = l.getD j 0) {x : Int32} {z : Int} (hx : x.toInt = z) (h0 : 0 ≤ z) (h1 : z < l.length) : (f x.toNatClampNeg).toInt = rd l z := by
  rw [am_clamp, hx]
  exact hf _ (by omega)
theorem am_rdL {f : Nat → Int64} {l : List Int} (hf : ∀ j, j < l.length → (f j).toInt = l.getD j 0) {x : Int32} {z : Int} (hx : x.toInt = z) (h0 : 0 ≤ z) (h1 : z < l.length) : (f x.toNatClampNeg).toInt = rd l z := by
  rw [am_clamp, hx]
  exact hf _ (by omega)
theorem am_nar {x : Int32} {v : Int} (h : x.toInt = v) (hv : v = 0 ∨ v = 1) : vp_nar .boolean x = x ∧ narrow .boolean (.int x) = .int x ∧ fits .boolean (.int x) = true := by
  rcases am_b01 (x := x) (by rw [h]; exact hv) with rfl | rfl <;> exact ⟨rfl, rfl, rfl⟩
theorem am_o8 {n : Int} (h : -128 ≤ n ∧ n ≤ 127) : (Int8.ofInt n).toInt32.toInt = n := by
  rw [Int8.toInt_toInt32, Int8.toInt_ofInt, show Int8.size = 256 from rfl, Int.bmod_eq_of_le (by omega) (by omega)]
theorem am_o16 {n : Int} (h : am_okI n = true) : (Int16.ofInt n).toInt32.toInt = n := by
  have h' : -32768 ≤ n ∧ n ≤ 32767 := by simpa [am_okI] using h
  rw [Int16.toInt_toInt32, Int16.toInt_ofInt, show Int16.size = 65536 from rfl, Int.bmod_eq_of_le (by omega) (by omega)]
theorem am_o32 {n : Int} (h : am_okI n = true) : (Int32.ofInt n).toInt = n := by
  have h' : -32768 ≤ n ∧ n ≤ 32767 := by simpa [am_okI] using h
  exact am_ofI ⟨by omega, by omega⟩
theorem am_tgt {pc : Nat} {off : Int} (h : decide (0 ≤ (pc : Int) + off) = true) : (pc : Int) + off = ((tgt pc off : Nat) : Int) := by
  have h' := of_decide_eq_true h
  unfold tgt
  omega
