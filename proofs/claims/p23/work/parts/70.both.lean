/-! both objects in one room; the law's start-/
section LA
variable {M : qHp} {K : Nat → Sg} {d v x : Nat → Int32} {c : Nat → Int32} {R : Nat → Sg} {A : Nat → Nat → Int32}
theorem kw_wm : wm (kW M K d v x) c R A = kW (wm M c R A) K d v x := by
  refine Prod.ext rfl (funext fun q => ?_)
  simp only [wm, kW]
  by_cases h : 627 ≤ q ∧ q < 635
  · rw [if_pos h, if_neg (by omega), if_pos h]
  · rw [if_neg h]
    by_cases h2 : 4 ≤ q ∧ q < 627
    · rw [if_pos h2, if_pos h2]
    · rw [if_neg h2, if_neg h2, if_neg h]
/-- a call of the class, in the room -/
theorem hw_k {y : Nat} {As : List Value} {r : Option Value} {K' : Nat → Sg} {d' v' x' : Nat → Int32} (h : qRun y As (kW (wm M c R A) K d v x) = some (r, kW (wm M c R A) K' d' v' x')) : qRun y As (wm (kW M K d v x) c R A) = some (r, wm (kW M K' d' v' x') c R A) := by
  rw [kw_wm, kw_wm]; exact h
theorem st_wm (h : stOK M) : stOK (wm M c R A) := by
  unfold stOK
  rw [wm_out (by omega), wm_out (by omega), wm_out (by omega)]
  exact h
end LA
