/-- the model's rows of a deed -/
def MD (l99 l100 : List Int) (Q : Nat → List Int) (e : Nat) (d : Int) : Prop := l99.length = 6 ∧ l100.length = 288 ∧ (0 ≤ d ∧ d < 6) ∧ rd l99 d = e ∧ ∀ i : Nat, i < e →
  rd l100 (48 * d + 8 * i) = rd (Q 0) i ∧ (rd (Q 0) i = 3 ∨ rd l100 (48 * d + 8 * i + 1) = rd (Q 1) i) ∧ (rd (Q 0) i = 1 ∨ rd (Q 0) i = 2 → rd l100 (48 * d + 8 * i + 2) = rd (Q 2) i) ∧
  (rd (Q 0) i = 0 ∨ rd (Q 0) i = 3 → rd l100 (48 * d + 8 * i + 3) = rd (Q 3) i) ∧ (rd (Q 0) i = 1 → rd l100 (48 * d + 8 * i + 4) = rd (Q 4) i) ∧
  rd l100 (48 * d + 8 * i + 5) = rd (Q 5) i - 1 ∧ (rd (Q 5) i = 0 ∨ (rd l100 (48 * d + 8 * i + 6) = rd (Q 6) i ∧ rd l100 (48 * d + 8 * i + 7) = rd (Q 7) i ∧ (rd (Q 6) i = 61 ∨ rd (Q 6) i = 60 ∨ rd (Q 6) i = 62)))
