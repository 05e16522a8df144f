/-! the reference's object: calls that change the day, and those that ask about it -/
section QB
variable {M : qHp} {c : Nat → Int32} {R : Nat → Sg} {A : Nat → Nat → Int32}
def isF (t v : Int32) : Bool := decide (if t = 0 then 0 ≤ v ∧ v ≤ 30 else if t = 1 then 0 ≤ v ∧ v ≤ 500 else if t = 2 then 0 ≤ v ∧ v ≤ 20 else if t = 3 then 1 ≤ v ∧ v ≤ 50 else if t = 4 then 0 ≤ v ∧ v ≤ 1440 else if t = 5 then 0 ≤ v ∧ v ≤ 1 else 1 ≤ v ∧ v ≤ 100)
theorem nI_bt0 {j n : Nat} {x : Int32} (hx : x = nI n) (hn : n < 100000) (h : j ≤ n) : (0 ≤ nI j ∧ nI j ≤ x) = True := by
  subst hx
  exact eq_true ⟨by rw [show (0 : Int32) = nI 0 from rfl, nI_le_iff (by omega) (by omega)]; omega, by rw [nI_le_iff (by omega) (by omega)]; omega⟩
def mtOK (s : Sg) (x : Int32) : Prop := s 0 0 ≤ x ∧ x ≤ 1439
theorem iN1 : ((-1 : Int32) = 0) = False := eq_false (by decide)
theorem iN2 : ((-2 : Int32) = 0) = False := eq_false (by decide)
theorem iN4 : ((-4 : Int32) = 0) = False := eq_false (by decide)
theorem iN5 : ((-5 : Int32) = 0) = False := eq_false (by decide)
/-- whether mail may be told: 0, or the error -/
def maM (s : Sg) (m p r x : Int32) : Int32 := if ¬ ((0 ≤ m ∧ m ≤ 2) ∧ 0 ≤ r ∧ r ≤ 7) then -1 else if ¬ ((1 ≤ p ∧ p ≤ 999) ∧ s 0 0 ≤ x ∧ x ≤ 1439) then -2 else if s 0 1 = 40 then -4 else 0
/-- a new batch -/
def bgF (s : Sg) (b : Nat) (m p r x : Int32) : Sg := fun g i => if g = 11 + b ∧ i < 11 then (if i = 0 then m else if i = 1 then p else if i = 2 then r else if i = 3 then x else if i = 4 then p else if i = 10 then -6 else 0) else s g i
def wpF (s : Sg) (b k : Nat) : Sg := fun g i => if g = 11 + b ∧ i < k then 0 else s g i
end QB
