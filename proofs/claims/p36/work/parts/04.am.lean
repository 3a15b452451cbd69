/-! the abstract machine: values are numbers, references are places in a list of cells -/
abbrev AV : Type := Option Nat ⊕ (Int ⊕ (Int ⊕ Nat))
abbrev AE : Type := (Nat × List AV) ⊕ ((FieldType × List Int) ⊕ List (Option Nat))
abbrev AG : Type := List AE
abbrev AF : Type := Nat × List (Option AV) × List AV × AG × Nat × Nat
abbrev vI (z : Int) : AV := .inr (.inl z)
abbrev vJ (z : Int) : AV := .inr (.inr (.inl z))
abbrev vS (n : Nat) : AV := .inr (.inr (.inr n))
abbrev vR (k : Nat) : AV := .inl (some k)
abbrev vN : AV := .inl none
abbrev eO (c : Nat) (l : List AV) : AE := .inl (c, l)
abbrev eA (ty : FieldType) (l : List Int) : AE := .inr (.inl (ty, l))
abbrev eR (l : List (Option Nat)) : AE := .inr (.inr l)
def inI (z : Int) : Prop := -2147483648 ≤ z ∧ z ≤ 2147483647
def inL (z : Int) : Prop := -9223372036854775808 ≤ z ∧ z ≤ 9223372036854775807
def rd (l : List Int) (i : Int) : Int := l.getD i.toNat 0
def wr (l : List Int) (i v : Int) : List Int := l.set i.toNat v
def nth {α : Type} : List α → Nat → Option α
  | [], _ => none
  | a :: _, 0 => some a
  | _ :: l, n + 1 => nth l n
def upl {α : Type} : List α → Nat → α → List α
  | [], _, _ => []
  | _ :: l, 0, v => v :: l
  | a :: l, n + 1, v => a :: upl l n v
theorem nth_eq {α : Type} (l : List α) (i : Nat) : nth l i = l[i]? := by
  induction l generalizing i with
  | nil => rfl
  | cons a l ih =>
    cases i with
    | zero => rfl
    | succ i => rw [nth, ih]; simp
theorem upl_eq {α : Type} (l : List α) (i : Nat) (v : α) : upl l i v = l.set i v := by
  induction l generalizing i with
  | nil => rfl
  | cons a l ih =>
    cases i with
    | zero => rfl
    | succ i => rw [upl, ih]; simp
def acat : AV → Nat
  | .inr (.inr (.inl _)) => 2
  | _ => 1
def acats : List AV → Nat
  | [] => 0
  | v :: l => acat v + acats l
def aone : List AV → Bool
  | [] => true
  | v :: l => Nat.beq (acat v) 1 && aone l
def tgt (pc : Nat) (off : Int) : Nat := ((pc : Int) + off).toNat
/-- new objects' fields -/
def dfl (ci : Nat) : List AV := match ci with
  | 0 => [vN, vN, vN, vN, vN, vN, vN, vN, vI 0]
  | 1 => [vN, vN, vN, vN, vN, vI 0, vN, vN, vN, vN]
  | 2 => [vN, vN, vN, vN, vI 0, vI 0]
  | 3 => [vN, vN, vN, vN, vI 0, vI 0]
  | 4 => [vN, vI 0, vI 0, vI 0]
  | 5 => [vN, vN, vN, vN, vI 0]
  | 6 => [vN, vN, vN, vN, vN, vN, vN, vN, vN, vN, vI 0, vI 0, vI 0]
  | 7 => [vN, vI 0, vI 0, vI 0]
  | 8 => [vN, vI 0, vI 0, vI 0]
  | _ => []
def mnI (x y : Int) : Int := if y < x then y else x
def cpI (l1 l2 : List Int) (sp dp n : Int) : List Int := (List.range l2.length).map (fun j => if dp.toNat ≤ j ∧ j < dp.toNat + n.toNat then l1.getD (sp.toNat + (j - dp.toNat)) 0 else l2.getD j 0)
def slen (n : Nat) : Int := match am_SLT[n]? with | some (_, s) => (s.toList.length : Int) | none => 0
def schr (n : Nat) (i : Int) : Int := match am_SLT[n]? with | some (_, s) => (((s.toList.map Char.toNat).getD i.toNat 0 : Nat) : Int) | none => 0
/-- the law alone has locals of two words -/
def lgK (k : Nat) : Bool := Nat.beq k 169
def isJ : Option (Option AV) → Bool
  | some (some (.inr (.inr (.inl _)))) => true
  | _ => false
def bnd (x y : Int) : Int := (Int32.ofInt x &&& Int32.ofInt y).toInt
/-- an instruction that goes on to one next one: what it wants, and the frame behind it -/
def s1 (k : Nat) (e : AI) (f : AF) : Option (Option Prop × AF) :=
  match f with
  | (pc, L, st, G, cs, sl) =>
  match e with
  | (i, a, b, _, q) =>
  match i with
  | .iconst n => some (none, (pc + 1, L, vI n :: st, G, cs, sl))
  | .bipush n => some (none, (pc + 2, L, vI n :: st, G, cs, sl))
  | .sipush n => some (none, (pc + 3, L, vI n :: st, G, cs, sl))
  | .lconst n => some (none, (pc + 1, L, vJ (n.val : Nat) :: st, G, cs, sl))
  | .aconst_null => some (none, (pc + 1, L, vN :: st, G, cs, sl))
  | .ldc _ => some (none, (pc + 2, L, vS a :: st, G, cs, sl))
  | .iload n => (match nth L n with
    | some (some (.inr (.inl z))) => some (none, (pc + 2, L, vI z :: st, G, cs, sl))
    | _ => none)
  | .iload_n n => (match nth L n.val with
    | some (some (.inr (.inl z))) => some (none, (pc + 1, L, vI z :: st, G, cs, sl))
    | _ => none)
  | .aload n => (match nth L n with
    | some (some (.inl o)) => some (none, (pc + 2, L, .inl o :: st, G, cs, sl))
    | some (some (.inr (.inr (.inr j)))) => some (none, (pc + 2, L, vS j :: st, G, cs, sl))
    | _ => none)
  | .aload_n n => (match nth L n.val with
    | some (some (.inl o)) => some (none, (pc + 1, L, .inl o :: st, G, cs, sl))
    | some (some (.inr (.inr (.inr j)))) => some (none, (pc + 1, L, vS j :: st, G, cs, sl))
    | _ => none)
  | .istore n => (match st, nth L n with
    | .inr (.inl z) :: st, some _ => (match lgK k && isJ (nth L (n - 1)) with
      | true => none
      | false => some (none, (pc + 2, upl L n (some (vI z)), st, G, cs, sl)))
    | _, _ => none)
  | .istore_n n => (match st, nth L n.val with
    | .inr (.inl z) :: st, some _ => (match lgK k && isJ (nth L (n.val - 1)) with
      | true => none
      | false => some (none, (pc + 1, upl L n.val (some (vI z)), st, G, cs, sl)))
    | _, _ => none)
  | .astore n => (match st, nth L n with
    | .inl o :: st, some _ => (match lgK k && isJ (nth L (n - 1)) with
      | true => none
      | false => some (none, (pc + 2, upl L n (some (.inl o)), st, G, cs, sl)))
    | _, _ => none)
  | .astore_n n => (match st, nth L n.val with
    | .inl o :: st, some _ => (match lgK k && isJ (nth L (n.val - 1)) with
      | true => none
      | false => some (none, (pc + 1, upl L n.val (some (.inl o)), st, G, cs, sl)))
    | _, _ => none)
  | .lload n => (match nth L n with
    | some (some (.inr (.inr (.inl z)))) => some (none, (pc + 2, L, vJ z :: st, G, cs, sl))
    | _ => none)
  | .lstore n => (match st, nth L (n + 1) with
    | .inr (.inr (.inl z)) :: st, some _ => (match lgK k && !(isJ (nth L (n - 1))) with
      | true => some (none, (pc + 2, upl (upl L (n + 1) none) n (some (vJ z)), st, G, cs, sl))
      | false => none)
    | _, _ => none)
  | .lload_n n => (match nth L n.val with
    | some (some (.inr (.inr (.inl z)))) => some (none, (pc + 1, L, vJ z :: st, G, cs, sl))
    | _ => none)
  | .lstore_n n => (match st, nth L (n.val + 1) with
    | .inr (.inr (.inl z)) :: st, some _ => (match lgK k && !(isJ (nth L (n.val - 1))) with
      | true => some (none, (pc + 1, upl (upl L (n.val + 1) none) n.val (some (vJ z)), st, G, cs, sl))
      | false => none)
    | _, _ => none)
  | .iinc n d => (match nth L n with
    | some (some (.inr (.inl z))) => some (some (inI (z + d)), (pc + 3, upl L n (some (vI (z + d))), st, G, cs, sl))
    | _ => none)
  | .iadd => (match st with
    | .inr (.inl y) :: .inr (.inl x) :: st => some (some (inI (x + y)), (pc + 1, L, vI (x + y) :: st, G, cs, sl))
    | _ => none)
  | .isub => (match st with
    | .inr (.inl y) :: .inr (.inl x) :: st => some (some (inI (x - y)), (pc + 1, L, vI (x - y) :: st, G, cs, sl))
    | _ => none)
  | .imul => (match st with
    | .inr (.inl y) :: .inr (.inl x) :: st => some (some (inI (x * y)), (pc + 1, L, vI (x * y) :: st, G, cs, sl))
    | _ => none)
  | .idiv => (match st with
    | .inr (.inl y) :: .inr (.inl x) :: st => some (some (0 ≤ x ∧ 0 < y), (pc + 1, L, vI (x / y) :: st, G, cs, sl))
    | _ => none)
  | .ineg => (match st with
    | .inr (.inl x) :: st => some (some (inI (-x)), (pc + 1, L, vI (-x) :: st, G, cs, sl))
    | _ => none)
  | .iand => (match a with
    | 9 => (match st with
      | .inr (.inl y) :: .inr (.inl x) :: st => some (none, (pc + 1, L, vI (bnd x y) :: st, G, cs, sl))
      | _ => none)
    | _ => (match st with
    | .inr (.inl y) :: .inr (.inl x) :: st => some (some (y = 1 ∨ y = 63 ∨ y = 255), (pc + 1, L, vI (x % (y + 1)) :: st, G, cs, sl))
    | _ => none))
  | .irem => (match st with
    | .inr (.inl y) :: .inr (.inl x) :: st => some (some (0 ≤ x ∧ 0 < y), (pc + 1, L, vI (x % y) :: st, G, cs, sl))
    | _ => none)
  | .ior => (match st with
    | .inr (.inl y) :: .inr (.inl x) :: st => some (some (0 ≤ x ∧ 0 ≤ y), (pc + 1, L, vI ((x.toNat ||| y.toNat : Nat) : Int) :: st, G, cs, sl))
    | _ => none)
  | .ishl => (match st with
    | .inr (.inl y) :: .inr (.inl x) :: st => some (some (0 ≤ y ∧ y < 31 ∧ 0 ≤ x ∧ x * 2 ^ y.toNat ≤ 2147483647), (pc + 1, L, vI (x * 2 ^ y.toNat) :: st, G, cs, sl))
    | _ => none)
  | .ishr => (match st with
    | .inr (.inl y) :: .inr (.inl x) :: st => some (some (0 ≤ y ∧ y < 32), (pc + 1, L, vI (x / 2 ^ y.toNat) :: st, G, cs, sl))
    | _ => none)
  | .i2l => (match st with
    | .inr (.inl x) :: st => some (none, (pc + 1, L, vJ x :: st, G, cs, sl))
    | _ => none)
  | .l2i => (match st with
    | .inr (.inr (.inl x)) :: st => some (some (inI x), (pc + 1, L, vI x :: st, G, cs, sl))
    | _ => none)
  | .ladd => (match st with
    | .inr (.inr (.inl y)) :: .inr (.inr (.inl x)) :: st => some (some (inL (x + y)), (pc + 1, L, vJ (x + y) :: st, G, cs, sl))
    | _ => none)
  | .lmul => (match st with
    | .inr (.inr (.inl y)) :: .inr (.inr (.inl x)) :: st => some (some (inL (x * y)), (pc + 1, L, vJ (x * y) :: st, G, cs, sl))
    | _ => none)
  | .ldiv => (match st with
    | .inr (.inr (.inl y)) :: .inr (.inr (.inl x)) :: st => some (some (0 ≤ x ∧ 0 < y), (pc + 1, L, vJ (x / y) :: st, G, cs, sl))
    | _ => none)
  | .lcmp => (match st with
    | .inr (.inr (.inl y)) :: .inr (.inr (.inl x)) :: st => some (none, (pc + 1, L, vI (if y < x then 1 else if x = y then 0 else -1) :: st, G, cs, sl))
    | _ => none)
  | .dup => (match st with
    | .inl o :: st => some (none, (pc + 1, L, .inl o :: .inl o :: st, G, cs, sl))
    | .inr (.inl z) :: st => some (none, (pc + 1, L, vI z :: vI z :: st, G, cs, sl))
    | _ => none)
  | .dup2 => (match st with
    | .inr (.inl z) :: .inl o :: st => some (none, (pc + 1, L, vI z :: .inl o :: vI z :: .inl o :: st, G, cs, sl))
    | _ => none)
  | .pop => (match st with
    | .inl _ :: st => some (none, (pc + 1, L, st, G, cs, sl))
    | .inr (.inl _) :: st => some (none, (pc + 1, L, st, G, cs, sl))
    | _ => none)
  | .goto off => some (none, (tgt pc off, L, st, G, cs, sl))
  | .ifnull off => (match st with
    | .inl none :: st => some (none, (tgt pc off, L, st, G, cs, sl))
    | .inl (some _) :: st => some (none, (pc + 3, L, st, G, cs, sl))
    | _ => none)
  | .ifnonnull off => (match st with
    | .inl none :: st => some (none, (pc + 3, L, st, G, cs, sl))
    | .inl (some _) :: st => some (none, (tgt pc off, L, st, G, cs, sl))
    | _ => none)
  | .getfield _ => (match st with
    | .inl (some (x + 1)) :: st => (match nth G (x + 1) with
      | some (.inl (ci, fs)) => (match Nat.beq ci a with
        | true => (match nth fs b with
          | some v => some (none, (pc + 3, L, v :: st, G, cs, sl))
          | none => none)
        | false => none)
      | _ => none)
    | _ => none)
  | .putfield _ => (match st with
    | .inr (.inl z) :: .inl (some (x + 1)) :: st => (match nth G (x + 1) with
      | some (.inl (ci, fs)) => (match Nat.beq ci a && Nat.blt b fs.length with
        | true => (match q with
          | 0 => some (none, (pc + 3, L, st, upl G (x + 1) (eO ci (upl fs b (vI z))), cs, sl))
          | 1 => some (some (z = 0 ∨ z = 1), (pc + 3, L, st, upl G (x + 1) (eO ci (upl fs b (vI z))), cs, sl))
          | _ => none)
        | false => none)
      | _ => none)
    | .inl (some y) :: .inl (some (x + 1)) :: st => (match nth G (x + 1) with
      | some (.inl (ci, fs)) => (match Nat.beq ci a && Nat.blt b fs.length && mIn k && Nat.beq (mO k) a with
        | true => (match q with
          | 6 => some (none, (pc + 3, L, st, upl G (x + 1) (eO ci (upl fs b (vR y))), cs, sl))
          | _ => none)
        | false => none)
      | _ => none)
    | _ => none)
  | .iaload => (match st with
    | .inr (.inl i) :: .inl (some x) :: st => (match nth G x with
      | some (.inr (.inl (.int, l))) => some (some (0 ≤ i ∧ i < l.length), (pc + 1, L, vI (rd l i) :: st, G, cs, sl))
      | _ => none)
    | _ => none)
  | .baload => (match st with
    | .inr (.inl i) :: .inl (some (x + 1)) :: st => (match nth G (x + 1) with
      | some (.inr (.inl (.boolean, l))) => some (some (0 ≤ i ∧ i < l.length), (pc + 1, L, vI (rd l i) :: st, G, cs, sl))
      | _ => none)
    | _ => none)
  | .laload => (match st with
    | .inr (.inl i) :: .inl (some (x + 1)) :: st => (match nth G (x + 1) with
      | some (.inr (.inl (.long, l))) => some (some (0 ≤ i ∧ i < l.length), (pc + 1, L, vJ (rd l i) :: st, G, cs, sl))
      | _ => none)
    | _ => none)
  | .aaload => (match st with
    | .inr (.inl i) :: .inl (some (x + 1)) :: st => (match nth G (x + 1) with
      | some (.inr (.inr l)) => some (some (0 ≤ i ∧ i < l.length), (pc + 1, L, .inl (l.getD i.toNat none) :: st, G, cs, sl))
      | _ => none)
    | _ => none)
  | .iastore => (match st with
    | .inr (.inl v) :: .inr (.inl i) :: .inl (some (x + 1)) :: st => (match nth G (x + 1) with
      | some (.inr (.inl (.int, l))) => some (some (0 ≤ i ∧ i < l.length), (pc + 1, L, st, upl G (x + 1) (eA .int (wr l i v)), cs, sl))
      | _ => none)
    | _ => none)
  | .bastore => (match st with
    | .inr (.inl v) :: .inr (.inl i) :: .inl (some (x + 1)) :: st => (match nth G (x + 1) with
      | some (.inr (.inl (.boolean, l))) => some (some ((0 ≤ i ∧ i < l.length) ∧ (v = 0 ∨ v = 1)), (pc + 1, L, st, upl G (x + 1) (eA .boolean (wr l i v)), cs, sl))
      | _ => none)
    | _ => none)
  | .lastore => (match st with
    | .inr (.inr (.inl v)) :: .inr (.inl i) :: .inl (some (x + 1)) :: st => (match nth G (x + 1) with
      | some (.inr (.inl (.long, l))) => some (some (0 ≤ i ∧ i < l.length), (pc + 1, L, st, upl G (x + 1) (eA .long (wr l i v)), cs, sl))
      | _ => none)
    | _ => none)
  | .aastore => (match st with
    | .inl (some (y + 1)) :: .inr (.inl i) :: .inl (some (x + 1)) :: st => (match nth G (x + 1), nth G (y + 1) with
      | some (.inr (.inr l)), some (.inl (0, _)) => some (some (0 ≤ i ∧ i < l.length), (pc + 1, L, st, upl G (x + 1) (eR (l.set i.toNat (some (y + 1)))), cs, sl))
      | _, _ => none)
    | _ => none)
  | .arraylength => (match st with
    | .inl (some 0) :: st => (match nth G 0 with
      | some (.inr (.inl (.int, l))) => some (some (l.length ≤ 2560), (pc + 1, L, vI l.length :: st, G, cs, sl))
      | _ => none)
    | _ => none)
  | .newarray .int => (match st with
    | .inr (.inl n) :: st => some (some ((0 ≤ n ∧ n ≤ 1000) ∧ cs + 1 ≤ mC k ∧ sl + n.toNat ≤ mS k), (pc + 2, L, vR G.length :: st, G ++ [eA .int (List.replicate n.toNat 0)], cs + 1, sl + n.toNat))
    | _ => none)
  | .newarray .boolean => (match st with
    | .inr (.inl n) :: st => some (some ((0 ≤ n ∧ n ≤ 1000) ∧ cs + 1 ≤ mC k ∧ sl + n.toNat ≤ mS k), (pc + 2, L, vR G.length :: st, G ++ [eA .boolean (List.replicate n.toNat 0)], cs + 1, sl + n.toNat))
    | _ => none)
  | .newarray .long => (match st with
    | .inr (.inl n) :: st => some (some ((0 ≤ n ∧ n ≤ 1000) ∧ cs + 1 ≤ mC k ∧ sl + n.toNat ≤ mS k), (pc + 2, L, vR G.length :: st, G ++ [eA .long (List.replicate n.toNat 0)], cs + 1, sl + n.toNat))
    | _ => none)
  | .anewarray _ => (match st with
    | .inr (.inl n) :: st => some (some ((0 ≤ n ∧ n ≤ 1000) ∧ cs + 1 ≤ mC k ∧ sl + n.toNat ≤ mS k), (pc + 3, L, vR G.length :: st, G ++ [eR (List.replicate n.toNat none)], cs + 1, sl + n.toNat))
    | _ => none)
  | .new _ => some (some (cs + 1 ≤ mC k ∧ sl + (dfl a).length ≤ mS k), (pc + 3, L, vR G.length :: st, G ++ [eO a (dfl a)], cs + 1, sl + (dfl a).length))
  | .invokespecial _ => (match a with
    | 4 => (match st with
      | .inl (some (x + 1)) :: st => (match Nat.ble 1 (mF k) && Nat.ble (acats st + 12) (mLo k) with
        | true => some (none, (pc + 3, L, st, G, cs, sl))
        | false => none)
      | _ => none)
    | _ => none)
  | .invokestatic _ => (match a with
    | 5 => (match st with
      | .inr (.inl y) :: .inr (.inl x) :: st => (match Nat.ble 1 (mF k) && Nat.ble (acats st + 13) (mLo k) with
        | true => some (none, (pc + 3, L, vI (mnI x y) :: st, G, cs, sl))
        | false => none)
      | _ => none)
    | 6 => (match st with
      | .inr (.inl n) :: .inr (.inl dp) :: .inl (some (x + 1)) :: .inr (.inl sp) :: .inl (some (y + 1)) :: st => (match Nat.ble 1 (mF k) && Nat.ble (acats st + 40) (mLo k) with
        | true => (match nth G (y + 1), nth G (x + 1) with
          | some (.inr (.inl (.int, l1))), some (.inr (.inl (.int, l2))) => some (some (0 ≤ n ∧ 0 ≤ sp ∧ 0 ≤ dp ∧ sp + n ≤ l1.length ∧ dp + n ≤ l2.length), (pc + 3, L, st, upl G (x + 1) (eA .int (cpI l1 l2 sp dp n)), cs, sl))
          | _, _ => none)
        | false => none)
      | _ => none)
    | _ => none)
  | .invokevirtual _ => (match a with
    | 7 => (match st with
      | .inr (.inr (.inr n)) :: st => (match Nat.ble 3 (mF k) && Nat.ble 80 (mLo k) && Nat.ble (acats st) 8 && Nat.blt n 29 with
        | true => some (none, (pc + 3, L, vI (slen n) :: st, G, cs, sl))
        | false => none)
      | _ => none)
    | 8 => (match st with
      | .inr (.inl i) :: .inr (.inr (.inr n)) :: st => (match Nat.ble 5 (mF k) && Nat.ble 160 (mLo k) && Nat.ble (acats st) 8 && Nat.blt n 29 with
        | true => some (some (0 ≤ i ∧ i < slen n), (pc + 3, L, vI (schr n i) :: st, G, cs, sl))
        | false => none)
      | _ => none)
    | _ => none)
  | _ => none
def cj (P : Option Prop) (Q : Prop) : Prop := match P with | none => Q | some P => P ∧ Q
def cmpP (c : ClassFile.Cond) (x y : Int) : Prop := match c with
  | .eq => x = y | .ne => ¬ x = y | .lt => x < y | .ge => y ≤ x | .gt => y < x | .le => x ≤ y
/-- a call of an own method: its arguments (the receiver first) fit, and so does its room -/
def callOK (k : Nat) (e : AI) (f : AF) : Bool :=
  match f with
  | (_, _, st, G, cs, sl) =>
  match e with
  | (_, a, j, _, na) =>
    Nat.ble (mF j + 1) (mF k) && Nat.ble (19 + mL j + mLo j) (mLo k) && Nat.ble (acats (st.drop na)) 8 && Nat.beq (st.take na).length na && aone (st.take na) && Nat.beq na (mNA j) && Nat.ble na (mL j) && Nat.ble (cs + mC j) (mC k) && Nat.ble (sl + mS j) (mS k) &&
    (match a with
     | 0 => (match (st.take na).reverse with
       | .inl (some (x + 1)) :: _ => (match nth G (x + 1) with
         | some (.inl (ci, _)) => Nat.beq ci (mO j)
         | _ => false)
       | _ => false)
     | 1 => true
     | 2 => (match (st.take na).reverse with
       | .inl (some (_ + 1)) :: _ => mIn j
       | _ => false)
     | 3 => (match (st.take na).reverse with
       | .inl (some (_ + 1)) :: _ => mIn j
       | _ => false)
     | _ => false)
def L0 (j : Nat) (vs : List AV) : List (Option AV) := vs.map some ++ List.replicate (mL j - vs.length) none
def swR (x : Int) (R : Int → Prop) (d : Int) : Int → List Int → Prop
  | lo, [] => (∀ j : Nat, True) ∧ R d ∧ (x < lo ∨ lo ≤ x)
  | lo, o :: os => (x = lo ∧ R o) ∨ (¬ x = lo ∧ swR x R d (lo + 1) os)
