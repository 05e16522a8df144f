/-! the class: numbers and orders on the pad -/
section KQ
variable {M : qHp} {K : Nat → Sg} {d v x : Nat → Int32} {y : Nat → Nat} {P : Nat}
theorem px_up {d' : Nat → Int32} (hy : pxOK d x y P) (h : d' 2 = d 2) : pxOK d' x y P := ⟨hy.1, h.trans hy.2.1, hy.2.2⟩
/-- a number read, and a place -/
def nmD (d : Nat → Int32) (w q : Nat) : Nat → Int32 := up (up d 7 (nI w)) 3 (nI q)
theorem nm_2 {w q : Nat} : nmD d w q 2 = d 2 := (up_n (by omega)).trans (up_n (by omega))
theorem nm_3 {w q : Nat} : nmD d w q 3 = nI q := up_at
theorem nm_7 {w q : Nat} : nmD d w q 7 = nI w := (up_n (by omega)).trans up_at
theorem nm_u {w q w' q' : Nat} : up (up (nmD d w q) 7 (nI w')) 3 (nI q') = nmD d w' q' := by
  funext j
  unfold nmD up
  by_cases j3 : j = 3
  · simp [j3]
  · by_cases j7 : j = 7
    · simp [j7]
    · simp [j3, j7]
/-- the numbers that an order leaves on the pad -/
def odR (d' : Nat → Int32) (u : Nat) (r : qO5) : Prop := r.1 = true → d' 4 = nI u ∧ (knP u = 3 → d' 5 = nI r.2.1 ∧ d' 6 = nI r.2.2.1 ∧ d' 7 = nI r.2.2.2.1) ∧ (knP u = 2 → d' 6 = nI r.2.1 ∧ d' 7 = nI r.2.2.1) ∧ (knP u = 1 → d' 7 = nI r.2.1)
def odK (d d' : Nat → Int32) : Prop := d' 0 = d 0 ∧ d' 1 = d 1 ∧ d' 2 = d 2
end KQ
