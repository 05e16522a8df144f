/-! reading orders, and the reference's reader of them -/
def srP (y : Nat → Nat) (P p : Nat) : Nat := if p < P then y p else 0
abbrev qO5 := Bool × Nat × Nat × Nat × Nat
def o3P (y : Nat → Nat) (P p : Nat) : qO5 :=
  let n1 := nuP y P (p + 1)
  if n1.1 = false then (false, 0, 0, 0, n1.2.2) else
  let g1 := sgP y P 62 n1.2.2
  if g1.1 = false then (false, 0, 0, 0, g1.2) else
  let d := dgP y P g1.2
  if d.1 = false then (false, 0, 0, 0, d.2.2) else
  let g2 := sgP y P 64 d.2.2
  if g2.1 = false then (false, 0, 0, 0, g2.2) else
  let n2 := nuP y P g2.2
  if n2.1 = false then (false, 0, 0, 0, n2.2.2) else
  (true, n1.2.1, d.2.1, n2.2.1, n2.2.2)
def o2P (y : Nat → Nat) (P p : Nat) : qO5 :=
  let d := dgP y P (p + 1)
  if d.1 = false then (false, 0, 0, 0, d.2.2) else
  let g1 := sgP y P 61 d.2.2
  if g1.1 = false then (false, 0, 0, 0, g1.2) else
  let n2 := nuP y P g1.2
  if n2.1 = false then (false, 0, 0, 0, n2.2.2) else
  (true, d.2.1, n2.2.1, 0, n2.2.2)
def o1P (y : Nat → Nat) (P p : Nat) : qO5 :=
  let n1 := nuP y P (p + 1)
  if n1.1 = false then (false, 0, 0, 0, n1.2.2) else
  (true, n1.2.1, 0, 0, n1.2.2)
/-- what an order is: 3 mail, 2 a cutoff, 1 another, 0 none -/
def knP (u : Nat) : Nat := if u = 108 ∨ u = 102 ∨ u = 112 then 3 else if u = 99 then 2 else if u = 115 ∨ u = 116 then 1 else 0
def orP (y : Nat → Nat) (P p : Nat) : qO5 := if knP (srP y P p) = 3 then o3P y P p else if knP (srP y P p) = 2 then o2P y P p else if knP (srP y P p) = 1 then o1P y P p else (false, 0, 0, 0, p)
theorem nu_le {y : Nat → Nat} {P p : Nat} (h : p ≤ P) : p ≤ (nuP y P p).2.2 ∧ (nuP y P p).2.2 ≤ P ∧ ((nuP y P p).1 = true → p < (nuP y P p).2.2) := by
  unfold nuP
  cases e : inB y P p 48 57 with
  | false => exact ⟨Nat.le_refl _, h, fun q => absurd q (by simp)⟩
  | true =>
    have g0 := (inB_t (y := y)).mp e
    simp only [Bool.true_eq_false, if_false]
    split
    · exact ⟨by simp, by simp; omega, by simp⟩
    · cases e1 : inB y P (p + 1) 48 57 with
      | false => simp; omega
      | true =>
        have g1 := (inB_t (y := y)).mp e1
        simp only [Bool.true_eq_false, if_false]
        cases e2 : inB y P (p + 2) 48 57 with
        | false => simp; omega
        | true =>
          have g2 := (inB_t (y := y)).mp e2
          simp only [Bool.true_eq_false, if_false]
          cases e3 : inB y P (p + 3) 48 57 with
          | false => simp; omega
          | true =>
            have g3 := (inB_t (y := y)).mp e3
            simp; omega
theorem dg_le {y : Nat → Nat} {P p : Nat} (h : p ≤ P) : p ≤ (dgP y P p).2.2 ∧ (dgP y P p).2.2 ≤ P ∧ ((dgP y P p).1 = true → p < (dgP y P p).2.2) := by
  unfold dgP
  cases e : inB y P p 48 55 with
  | false => exact ⟨Nat.le_refl _, h, fun q => absurd q (by simp)⟩
  | true =>
    have g0 := (inB_t (y := y)).mp e
    simp; omega
theorem sg_le {y : Nat → Nat} {P ch p : Nat} (h : p ≤ P) : p ≤ (sgP y P ch p).2 ∧ (sgP y P ch p).2 ≤ P ∧ ((sgP y P ch p).1 = true → p < (sgP y P ch p).2) := by
  unfold sgP
  cases e : inB y P p ch ch with
  | false => exact ⟨Nat.le_refl _, h, fun q => absurd q (by simp)⟩
  | true =>
    have g0 := (inB_t (y := y)).mp e
    simp; omega
section QH
variable {M : qHp} {c : Nat → Int32} {R : Nat → Sg} {A : Nat → Nat → Int32} {y : Nat → Nat} {P : Nat}
/-- what of the reader's rows holds after an order, the o-th -/
def orR (A A' : Nat → Nat → Int32) (o u : Nat) (r : qO5) : Prop := A' 0 = A 0 ∧ A' 1 = A 1 ∧ (∀ k, k < 4 * o → A' 2 k = A 2 k) ∧ (r.1 = true → A' 2 (4 * o) = nI u ∧ A' 2 (4 * o + 1) = nI r.2.1 ∧ (knP u ≠ 1 → A' 2 (4 * o + 2) = nI r.2.2.1) ∧ (knP u = 3 → A' 2 (4 * o + 3) = nI r.2.2.2.1))
theorem ua_o {i k : Nat} {v : Int32} (h : i ≠ 2) : ua A 2 k v i = A i := if_neg h
theorem ua_s {k j : Nat} {v : Int32} : ua A 2 k v 2 j = if j = k then v else A 2 j := by
  unfold ua up; rw [if_pos rfl]
end QH
