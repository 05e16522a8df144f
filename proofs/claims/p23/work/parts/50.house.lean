/-! the class: all of it: eleven centres K (0 its own, 1 the trial, 2 to 8 the history's, 9 and 10 the slots), numbers d (0 first, 1 size, 2 length, 3 place, 4 order, 5 pieces, 6 route, 7 number), what is saved v, the pad's text x -/
def oa (i : Nat) : Nat := if i = 0 then 5 else if i = 1 then 61 else if i < 9 then 121 + 56 * (i - 2) else 515 + 56 * (i - 9)
def kC (K : Nat → Sg) (d v x : Nat → Int32) (a : Nat) : Option qCel :=
  if a = 4 then some (6, [.ref 5, .ref 61, .ref 117, .ref 118, .ref 119, .ref 513]) else
  if a < 61 then cbC 5 (K 0) (a - 5) else
  if a < 117 then cbC 61 (K 1) (a - 61) else
  if a = 117 then some (13, [.ref 515, .ref 571]) else
  if a = 118 then some (9, ia 2 v) else
  if a = 119 then some (2, [.ref 120, .int (d 0), .int (d 1)]) else
  if a = 120 then some (13, (List.range 7).map fun j => .ref (121 + 56 * j)) else
  if a < 513 then cbC (121 + 56 * ((a - 121) / 56)) (K (2 + (a - 121) / 56)) ((a - 121) % 56) else
  if a = 513 then some (4, [.ref 514, .int (d 2), .int (d 3), .int (d 4), .int (d 5), .int (d 6), .int (d 7)]) else
  if a = 514 then some (10, ia 80 x) else
  cbC (515 + 56 * ((a - 515) / 56)) (K (9 + (a - 515) / 56)) ((a - 515) % 56)
def kW (M : qHp) (K : Nat → Sg) (d v x : Nat → Int32) : qHp := (M.1, fun a => if 4 ≤ a ∧ a < 627 then kC K d v x a else M.2 a)
section KW
variable {M : qHp} {K : Nat → Sg} {d v x : Nat → Int32}
theorem oa_in {i : Nat} (hi : i < 11) : 5 ≤ oa i ∧ oa i + 56 ≤ 627 := by
  unfold oa
  by_cases h0 : i = 0
  · rw [if_pos h0]; omega
  rw [if_neg h0]
  by_cases h1 : i = 1
  · rw [if_pos h1]; omega
  rw [if_neg h1]
  by_cases h2 : i < 9
  · rw [if_pos h2]; omega
  rw [if_neg h2]; omega
theorem kC_c {i j : Nat} (hi : i < 11) (hj : j < 56) : kC K d v x (oa i + j) = cbC (oa i) (K i) j := by
  unfold oa
  by_cases h0 : i = 0
  · subst h0
    rw [if_pos rfl]
    unfold kC
    rw [if_neg (by omega), if_pos (by omega), Nat.add_sub_cancel_left]
  rw [if_neg h0]
  by_cases h1 : i = 1
  · subst h1
    rw [if_pos rfl]
    unfold kC
    rw [if_neg (by omega), if_neg (by omega), if_pos (by omega), Nat.add_sub_cancel_left]
  rw [if_neg h1]
  by_cases h2 : i < 9
  · rw [if_pos h2]
    unfold kC
    have e1 : (121 + 56 * (i - 2) + j - 121) / 56 = i - 2 := by omega
    have e2 : (121 + 56 * (i - 2) + j - 121) % 56 = j := by omega
    rw [if_neg (by omega), if_neg (by omega), if_neg (by omega), if_neg (by omega), if_neg (by omega), if_neg (by omega), if_neg (by omega), if_pos (by omega), e1, e2, show 2 + (i - 2) = i by omega]
  rw [if_neg h2]
  unfold kC
  have e1 : (515 + 56 * (i - 9) + j - 515) / 56 = i - 9 := by omega
  have e2 : (515 + 56 * (i - 9) + j - 515) % 56 = j := by omega
  rw [if_neg (by omega), if_neg (by omega), if_neg (by omega), if_neg (by omega), if_neg (by omega), if_neg (by omega), if_neg (by omega), if_neg (by omega), if_neg (by omega), if_neg (by omega), e1, e2, show 9 + (i - 9) = i by omega]
theorem oa_ne {i i' : Nat} (hi : i < 11) (hi' : i' < 11) (h : i ≠ i') : oa i' + 56 ≤ oa i ∨ oa i + 56 ≤ oa i' := by
  unfold oa
  by_cases a0 : i = 0
  · rw [if_pos a0, if_neg (by omega)]
    by_cases b1 : i' = 1
    · rw [if_pos b1]; omega
    · rw [if_neg b1]; split <;> omega
  · rw [if_neg a0]
    by_cases a1 : i = 1
    · rw [if_pos a1]
      by_cases b0 : i' = 0
      · rw [if_pos b0]; omega
      · rw [if_neg b0, if_neg (by omega)]; split <;> omega
    · rw [if_neg a1]
      by_cases b0 : i' = 0
      · rw [if_pos b0]; split <;> omega
      · rw [if_neg b0]
        by_cases b1 : i' = 1
        · rw [if_pos b1]; split <;> omega
        · rw [if_neg b1]; split <;> split <;> omega
/-- an address is a centre's, or it does not depend on centres -/
theorem kC_K {K' : Nat → Sg} {a : Nat} (ha : 4 ≤ a ∧ a < 627) (h : ∀ i, i < 11 → oa i ≤ a → a < oa i + 56 → K i = K' i) : kC K d v x a = kC K' d v x a := by
  unfold kC
  by_cases a1 : a = 4
  · rw [if_pos a1, if_pos a1]
  rw [if_neg a1, if_neg a1]
  by_cases a2 : a < 61
  · rw [if_pos a2, if_pos a2, h 0 (by omega) (by show 5 ≤ a; omega) (by show a < 5 + 56; omega)]
  rw [if_neg a2, if_neg a2]
  by_cases a3 : a < 117
  · rw [if_pos a3, if_pos a3, h 1 (by omega) (by show 61 ≤ a; omega) (by show a < 61 + 56; omega)]
  rw [if_neg a3, if_neg a3]
  by_cases a4 : a = 117
  · rw [if_pos a4, if_pos a4]
  rw [if_neg a4, if_neg a4]
  by_cases a5 : a = 118
  · rw [if_pos a5, if_pos a5]
  rw [if_neg a5, if_neg a5]
  by_cases a6 : a = 119
  · rw [if_pos a6, if_pos a6]
  rw [if_neg a6, if_neg a6]
  by_cases a7 : a = 120
  · rw [if_pos a7, if_pos a7]
  rw [if_neg a7, if_neg a7]
  by_cases a8 : a < 513
  · have e : oa (2 + (a - 121) / 56) = 121 + 56 * ((a - 121) / 56) := by
      unfold oa; rw [if_neg (by omega), if_neg (by omega), if_pos (by omega), Nat.add_sub_cancel_left]
    rw [if_pos a8, if_pos a8, h (2 + (a - 121) / 56) (by omega) (by rw [e]; omega) (by rw [e]; omega)]
  rw [if_neg a8, if_neg a8]
  by_cases a9 : a = 513
  · rw [if_pos a9, if_pos a9]
  rw [if_neg a9, if_neg a9]
  by_cases a10 : a = 514
  · rw [if_pos a10, if_pos a10]
  rw [if_neg a10, if_neg a10]
  have e : oa (9 + (a - 515) / 56) = 515 + 56 * ((a - 515) / 56) := by
    unfold oa; rw [if_neg (by omega), if_neg (by omega), if_neg (by omega), Nat.add_sub_cancel_left]
  rw [h (9 + (a - 515) / 56) (by omega) (by rw [e]; omega) (by rw [e]; omega)]
theorem kW_1 : (kW M K d v x).1 = M.1 := rfl
theorem kW_in {a : Nat} (h : 4 ≤ a ∧ a < 627) : (kW M K d v x).2 a = kC K d v x a := if_pos h
theorem kW_out {a : Nat} (h : a < 4 ∨ 627 ≤ a) : (kW M K d v x).2 a = M.2 a := if_neg (by omega)
theorem kW_st (h : stOK M) : stOK (kW M K d v x) := by
  unfold stOK
  rw [kW_out (by omega), kW_out (by omega), kW_out (by omega)]
  exact h
theorem kW_cB {i : Nat} {s : Sg} (hi : i < 11) : cB (kW M K d v x) (oa i) s = kW M (us K i s) d v x := by
  refine Prod.ext rfl (funext fun q => ?_)
  have ho := oa_in hi
  simp only [cB]
  by_cases hr : oa i ≤ q ∧ q < oa i + 56
  · rw [if_pos hr, kW_in (by omega)]
    obtain ⟨j, rfl⟩ : ∃ j, q = oa i + j := ⟨q - oa i, by omega⟩
    rw [Nat.add_sub_cancel_left, kC_c hi (by omega), us_s]
  · rw [if_neg hr]
    by_cases h4 : 4 ≤ q ∧ q < 627
    · rw [kW_in h4, kW_in h4]
      refine kC_K h4 fun i' hi' h1 h2 => ?_
      by_cases e : i' = i
      · subst e; omega
      · rw [us_ne e]
    · rw [kW_out (by omega), kW_out (by omega)]
theorem kW_cB' {i : Nat} (hi : i < 11) : kW M K d v x = cB (kW M K d v x) (oa i) (K i) := by rw [kW_cB hi, us_id]
theorem kW_src {i i' : Nat} (hi : i < 11) (hi' : i' < 11) (h : i ≠ i') : srcOK (kW M K d v x) (oa i) (oa i') (K i') := by
  refine ⟨oa_ne hi hi' h, fun j hj => ?_⟩
  have ho := oa_in hi'
  rw [kW_in (by omega), kC_c hi' hj]
/-- a call on a centre, as a call in the house -/
theorem kW_run {i y : Nat} {As : List Value} {s' : Sg} {r : Option Value} (hi : i < 11) (h : qRun y As (cB (kW M K d v x) (oa i) (K i)) = some (r, cB (kW M K d v x) (oa i) s')) : qRun y As (kW M K d v x) = some (r, kW M (us K i s') d v x) := by
  rw [← kW_cB' hi, kW_cB hi] at h
  exact h
theorem kW_same {i y : Nat} {As : List Value} {r : Option Value} (hi : i < 11) (h : qRun y As (cB (kW M K d v x) (oa i) (K i)) = some (r, cB (kW M K d v x) (oa i) (K i))) : qRun y As (kW M K d v x) = some (r, kW M K d v x) := by
  rw [← kW_cB' hi] at h
  exact h
theorem kW_up {a : Nat} {e : qCel} {d' v' x' : Nat → Int32} (ha : 4 ≤ a ∧ a < 627) (h1 : kC K d' v' x' a = some e) (h2 : ∀ q, 4 ≤ q ∧ q < 627 → q ≠ a → kC K d' v' x' q = kC K d v x q) : hU (kW M K d v x) a e = kW M K d' v' x' := by
  refine Prod.ext rfl (funext fun q => ?_)
  simp only [hU, kW]
  by_cases hq : q = a
  · rw [if_pos hq, hq, if_pos ha, h1]
  · rw [if_neg hq]
    by_cases hr : 4 ≤ q ∧ q < 627
    · rw [if_pos hr, if_pos hr, h2 q hr hq]
    · rw [if_neg hr, if_neg hr]
end KW
