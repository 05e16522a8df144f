/-! reading: y are the characters, P how many -/
def inB (y : Nat → Nat) (P p lo hi : Nat) : Bool := decide (p < P ∧ lo ≤ y p ∧ y p ≤ hi)
theorem inB_t {y : Nat → Nat} {P p lo hi : Nat} : (inB y P p lo hi = true) = (p < P ∧ lo ≤ y p ∧ y p ≤ hi) := by
  unfold inB; rw [decide_eq_true_eq]
theorem inB_f {y : Nat → Nat} {P p lo hi : Nat} : (inB y P p lo hi = false) = ¬ (p < P ∧ lo ≤ y p ∧ y p ≤ hi) := by
  unfold inB; rw [decide_eq_false_iff_not]
/-- the pad holds y -/
def pdOK (c : Nat → Int32) (A : Nat → Nat → Int32) (y : Nat → Nat) (P : Nat) : Prop := P ≤ 80 ∧ c 1 = nI P ∧ ∀ k, k < P → A 1 k = nI (y k) ∧ y k < 256
/-- a number that is read: whether, its value, where it ends -/
def nuP (y : Nat → Nat) (P p : Nat) : Bool × Nat × Nat :=
  if inB y P p 48 57 = false then (false, 0, p) else
  if y p = 48 then (true, 0, p + 1) else
  if inB y P (p + 1) 48 57 = false then (true, y p - 48, p + 1) else
  if inB y P (p + 2) 48 57 = false then (true, 10 * (y p - 48) + (y (p + 1) - 48), p + 2) else
  if inB y P (p + 3) 48 57 = false then (true, 10 * (10 * (y p - 48) + (y (p + 1) - 48)) + (y (p + 2) - 48), p + 3) else
  (true, 10 * (10 * (10 * (y p - 48) + (y (p + 1) - 48)) + (y (p + 2) - 48)) + (y (p + 3) - 48), p + 4)
def dgP (y : Nat → Nat) (P p : Nat) : Bool × Nat × Nat := if inB y P p 48 55 = false then (false, 0, p) else (true, y p - 48, p + 1)
def sgP (y : Nat → Nat) (P ch p : Nat) : Bool × Nat := if inB y P p ch ch = false then (false, p) else (true, p + 1)
section QG
variable {M : qHp} {c : Nat → Int32} {R : Nat → Sg} {A : Nat → Nat → Int32} {y : Nat → Nat} {P : Nat}
def bB (b : Bool) : Int32 := if b then 1 else 0
theorem bB_0 {b : Bool} : (bB b = 0) = (b = false) := by cases b <;> simp [bB]
theorem bB_t : bB true = 1 := rfl
theorem bB_f : bB false = 0 := rfl
theorem up_same {c : Nat → Int32} {k : Nat} {v : Int32} (h : c k = v) : up c k v = c := by
  funext j; unfold up; split
  · rename_i r; rw [r, h]
  · rfl
theorem pd_up {c' : Nat → Int32} {A' : Nat → Nat → Int32} (hy : pdOK c A y P) (h1 : c' 1 = c 1) (h2 : A' 1 = A 1) : pdOK c' A' y P := ⟨hy.1, h1.trans hy.2.1, fun k hk => by rw [h2]; exact hy.2.2 k hk⟩
theorem up_u {c : Nat → Int32} {k : Nat} {v w : Int32} : up (up c k v) k w = up c k w := by
  funext j; unfold up; split <;> rfl
theorem up_at {c : Nat → Int32} {k : Nat} {v : Int32} : up c k v k = v := if_pos rfl
theorem up_n {c : Nat → Int32} {k j : Nat} {v : Int32} (h : j ≠ k) : up c k v j = c j := if_neg h
end QG
