/-! the reference's object: the pad, reading what is on it -/
section QF
variable {M : qHp} {c : Nat → Int32} {R : Nat → Sg} {A : Nat → Nat → Int32}
def byB (x : Int64) (k : Nat) : Int32 := ((x >>> ((8 * nI k).toInt64 &&& 63)) &&& 255).toInt32
/-- n characters stand in a number -/
def tdOK (f : Nat → Int32) (n : Nat) : Prop := n ≤ 8 ∧ 0 < n ∧ (∀ k, k < n → 33 ≤ f k ∧ f k ≤ 126) ∧ ∀ k, n ≤ k → k < 8 → f k = 0
def tdR (x : Int64) (n i : Nat) : Prop := (∀ k, i ≤ k → k < 8 → byB x k = 0) ∧ n ≠ 0
def ptA (A : Nat → Nat → Int32) (P n i : Nat) (f : Nat → Int32) : Nat → Nat → Int32 := fun g k => if g = 1 ∧ P ≤ k ∧ k < P + i then f (n - 1 - (k - P)) else A g k
end QF
