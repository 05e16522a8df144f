/-! the class: a text that is carried out-/
section KO
variable {M : qHp} {K : Nat → Sg} {d v x : Nat → Int32} {y : Nat → Nat} {P : Nat}
theorem k0u {z : Nat} {As : List Value} {r : Option Value} {s' : Sg} (h : qRun z As (cB (kW M K d v x) 5 (K 0)) = some (r, cB (kW M K d v x) 5 s')) : qRun z As (kW M K d v x) = some (r, kW M (us K 0 s') d v x) := kW_run (i := 0) (by omega) h
/-- the numbers on the pad are those of an order -/
def onP (d : Nat → Int32) (u : Nat) (a b e : Int32) : Prop := d 4 = nI u ∧ (knP u = 3 → d 5 = a ∧ d 6 = b ∧ d 7 = e) ∧ (knP u = 2 → d 6 = a ∧ d 7 = b) ∧ (knP u = 1 → d 7 = a)
/-- the class carries out, from the k-th order on -/
def cyC (y : Nat → Nat) (P : Nat) : Nat → Nat → Sg → Nat × Sg
  | 0, k, s => (k, s)
  | f + 1, k, s =>
    if mdV s (srP y P (psP y P k)) (nI (orP y P (psP y P k)).2.1) (nI (orP y P (psP y P k)).2.2.1) (nI (orP y P (psP y P k)).2.2.2.1) = 0 then cyC y P f (k + 1) (clD s (srP y P (psP y P k)) (nI (orP y P (psP y P k)).2.1) (nI (orP y P (psP y P k)).2.2.1) (nI (orP y P (psP y P k)).2.2.2.1)) else (k, s)
theorem on_of {d' : Nat → Int32} {u : Nat} {r : qO5} (h : odR d' u r) (h1 : r.1 = true) : onP d' u (nI r.2.1) (nI r.2.2.1) (nI r.2.2.2.1) := by
  obtain ⟨a, b, c, e⟩ := h h1
  exact ⟨a, b, c, e⟩
end KO
