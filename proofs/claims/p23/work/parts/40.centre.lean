/-! the class: a centre's cells, from o on: s is what they hold -/
def cbC (o : Nat) (s : Sg) (j : Nat) : Option qCel :=
  if j = 0 then some (1, [.ref (o + 1), .ref (o + 2), .ref (o + 3), .ref (o + 4), .ref (o + 5), .int (s 0 1), .int (s 0 0), .int (s 0 5), .int (s 0 2), .int (s 0 3), .int (s 0 6)]) else
  if j = 1 then some (8, ia 9 (s 1)) else
  if j = 2 then some (8, ia 8 (s 2)) else
  if j = 3 then some (11, (List.range 40).map fun b => .ref (o + 7 + b)) else
  if j = 4 then some (12, (List.range 3).map fun m => .ref (o + 47 + 3 * m)) else
  if j = 5 then some (5, [.ref (o + 6), .int (s 0 4)]) else
  if j = 6 then some (8, ia 40 (s 10)) else
  if j < 47 then some (0, ia 11 (s (11 + (j - 7)))) else
  if (j - 47) % 3 = 0 then some (3, .ref (o + j + 1) :: ia 5 (s (3 + (j - 47) / 3))) else
  if (j - 47) % 3 = 1 then some (5, [.ref (o + j + 1), .int (s 6 ((j - 47) / 3))]) else
  some (8, ia 40 (s (7 + (j - 47) / 3)))
def cB (M : qHp) (o : Nat) (s : Sg) : qHp := (M.1, fun a => if o ≤ a ∧ a < o + 56 then cbC o s (a - o) else M.2 a)
/-- the cell that holds a number of the day -/
def ow (g k : Nat) : Nat := if g = 0 then (if k = 4 then 5 else 0) else if g = 1 then 1 else if g = 2 then 2 else if g < 6 then 47 + 3 * (g - 3) else if g = 6 then 48 + 3 * k else if g < 10 then 49 + 3 * (g - 7) else if g = 10 then 6 else 7 + (g - 11)
theorem u2_g {s : Sg} {g g' k : Nat} {v : Int32} (h : g' ≠ g) : u2 s g k v g' = s g' := by
  funext i; rw [u2_at, if_neg (by omega)]
theorem cb_ne {o g k j : Nat} {s : Sg} {v : Int32} (h : ow g k ≠ j) (hj : j < 56) : cbC o (u2 s g k v) j = cbC o s j := by
  unfold ow at h
  unfold cbC
  by_cases j0 : j = 0
  · rw [if_pos j0, if_pos j0]
    have e : ∀ i, i ≠ 4 → u2 s g k v 0 i = s 0 i := by
      intro i hi
      rw [u2_at]
      by_cases g0 : g = 0
      · rw [if_pos g0] at h
        by_cases k4 : k = 4
        · rw [if_neg (by omega)]
        · rw [if_neg k4] at h; omega
      · rw [if_neg (by omega)]
    rw [e 1 (by omega), e 0 (by omega), e 5 (by omega), e 2 (by omega), e 3 (by omega), e 6 (by omega)]
  rw [if_neg j0, if_neg j0]
  by_cases j1 : j = 1
  · rw [if_pos j1, if_pos j1, u2_g]
    intro q
    subst q
    simp at h; omega
  rw [if_neg j1, if_neg j1]
  by_cases j2 : j = 2
  · rw [if_pos j2, if_pos j2, u2_g]
    intro q
    subst q
    simp at h; omega
  rw [if_neg j2, if_neg j2]
  by_cases j3 : j = 3
  · rw [if_pos j3, if_pos j3]
  rw [if_neg j3, if_neg j3]
  by_cases j4 : j = 4
  · rw [if_pos j4, if_pos j4]
  rw [if_neg j4, if_neg j4]
  by_cases j5 : j = 5
  · rw [if_pos j5, if_pos j5, u2_at]
    rw [if_neg]
    intro q
    rw [if_pos q.1.symm, if_pos q.2.symm] at h; omega
  rw [if_neg j5, if_neg j5]
  by_cases j6 : j = 6
  · rw [if_pos j6, if_pos j6, u2_g]
    intro q
    subst q
    simp at h; omega
  rw [if_neg j6, if_neg j6]
  by_cases j7 : j < 47
  · rw [if_pos j7, if_pos j7, u2_g]
    intro q
    rw [if_neg (by omega), if_neg (by omega), if_neg (by omega), if_neg (by omega), if_neg (by omega), if_neg (by omega), if_neg (by omega)] at h
    omega
  rw [if_neg j7, if_neg j7]
  by_cases j8 : (j - 47) % 3 = 0
  · rw [if_pos j8, if_pos j8, u2_g]
    intro q
    rw [if_neg (by omega), if_neg (by omega), if_neg (by omega), if_pos (by omega)] at h
    omega
  rw [if_neg j8, if_neg j8]
  by_cases j9 : (j - 47) % 3 = 1
  · rw [if_pos j9, if_pos j9, u2_at, if_neg]
    intro q
    rw [if_neg (by omega), if_neg (by omega), if_neg (by omega), if_neg (by omega), if_pos (by omega)] at h
    omega
  rw [if_neg j9, if_neg j9, u2_g]
  intro q
  rw [if_neg (by omega), if_neg (by omega), if_neg (by omega), if_neg (by omega), if_neg (by omega), if_pos (by omega)] at h
  omega
section CB
variable {M : qHp} {o : Nat} {s : Sg}
theorem cb_1 : (cB M o s).1 = M.1 := rfl
theorem cb_at {j : Nat} (h : j < 56) : (cB M o s).2 (o + j) = cbC o s j := by
  simp only [cB]
  rw [if_pos (by omega), Nat.add_sub_cancel_left]
theorem cb_out {a : Nat} (h : a < o ∨ o + 56 ≤ a) : (cB M o s).2 a = M.2 a := if_neg (by omega)
theorem cb_up {j : Nat} {d : qCel} {s' : Sg} (h : j < 56) (h1 : cbC o s' j = some d) (h2 : ∀ i, i < 56 → i ≠ j → cbC o s' i = cbC o s i) : hU (cB M o s) (o + j) d = cB M o s' := by
  refine Prod.ext rfl (funext fun q => ?_)
  simp only [hU, cB]
  by_cases hq : q = o + j
  · rw [if_pos hq, if_pos (by omega), hq, Nat.add_sub_cancel_left, h1]
  · rw [if_neg hq]
    by_cases hr : o ≤ q ∧ q < o + 56
    · rw [if_pos hr, if_pos hr, h2 (q - o) (by omega) (by omega)]
    · rw [if_neg hr, if_neg hr]
theorem cb_u2 {g k : Nat} {d : qCel} {v : Int32} (h : ow g k < 56) (h1 : cbC o (u2 s g k v) (ow g k) = some d) : hU (cB M o s) (o + ow g k) d = cB M o (u2 s g k v) := cb_up h h1 (fun _ hi hn => cb_ne (fun q => hn q.symm) hi)
theorem cb_cB {t : Sg} : cB (cB M o s) o t = cB M o t := by
  refine Prod.ext rfl (funext fun q => ?_)
  simp only [cB]
  split <;> rfl
/-- its own fields -/
theorem cb_0 : (cB M o s).2 o = some (1, [.ref (o + 1), .ref (o + 2), .ref (o + 3), .ref (o + 4), .ref (o + 5), .int (s 0 1), .int (s 0 0), .int (s 0 5), .int (s 0 2), .int (s 0 3), .int (s 0 6)]) := cb_at (j := 0) (by omega)
theorem cT : hT (cB M o s) o 1 = true := hT_of cb_0
theorem cg_0 : hG (cB M o s) o 1 0 = some (.ref (o + 1)) := hG_of cb_0
theorem cg_1 : hG (cB M o s) o 1 1 = some (.ref (o + 2)) := hG_of cb_0
theorem cg_2 : hG (cB M o s) o 1 2 = some (.ref (o + 3)) := hG_of cb_0
theorem cg_3 : hG (cB M o s) o 1 3 = some (.ref (o + 4)) := hG_of cb_0
theorem cg_4 : hG (cB M o s) o 1 4 = some (.ref (o + 5)) := hG_of cb_0
theorem cg_5 : hG (cB M o s) o 1 5 = some (.int (s 0 1)) := hG_of cb_0
theorem cg_6 : hG (cB M o s) o 1 6 = some (.int (s 0 0)) := hG_of cb_0
theorem cg_7 : hG (cB M o s) o 1 7 = some (.int (s 0 5)) := hG_of cb_0
theorem cg_8 : hG (cB M o s) o 1 8 = some (.int (s 0 2)) := hG_of cb_0
theorem cg_9 : hG (cB M o s) o 1 9 = some (.int (s 0 3)) := hG_of cb_0
theorem cg_10 : hG (cB M o s) o 1 10 = some (.int (s 0 6)) := hG_of cb_0
theorem cp_5 {v : Int32} : hP (cB M o s) o 1 5 .int (.int v) = some (cB M o (u2 s 0 1 v)) := by
  rw [hP_of cb_0 (Nat.le_of_ble_eq_true rfl) rfl]; exact congrArg some (cb_u2 (g := 0) (k := 1) (by decide) rfl)
theorem cp_6 {v : Int32} : hP (cB M o s) o 1 6 .int (.int v) = some (cB M o (u2 s 0 0 v)) := by
  rw [hP_of cb_0 (Nat.le_of_ble_eq_true rfl) rfl]; exact congrArg some (cb_u2 (g := 0) (k := 0) (by decide) rfl)
theorem cp_7 {v : Int32} : hP (cB M o s) o 1 7 .int (.int v) = some (cB M o (u2 s 0 5 v)) := by
  rw [hP_of cb_0 (Nat.le_of_ble_eq_true rfl) rfl]; exact congrArg some (cb_u2 (g := 0) (k := 5) (by decide) rfl)
theorem cp_8 {v : Int32} : hP (cB M o s) o 1 8 .int (.int v) = some (cB M o (u2 s 0 2 v)) := by
  rw [hP_of cb_0 (Nat.le_of_ble_eq_true rfl) rfl]; exact congrArg some (cb_u2 (g := 0) (k := 2) (by decide) rfl)
theorem cp_9 {v : Int32} : hP (cB M o s) o 1 9 .int (.int v) = some (cB M o (u2 s 0 3 v)) := by
  rw [hP_of cb_0 (Nat.le_of_ble_eq_true rfl) rfl]; exact congrArg some (cb_u2 (g := 0) (k := 3) (by decide) rfl)
theorem cp_10 {v : Int32} : hP (cB M o s) o 1 10 .int (.int v) = some (cB M o (u2 s 0 6 v)) := by
  rw [hP_of cb_0 (Nat.le_of_ble_eq_true rfl) rfl]; exact congrArg some (cb_u2 (g := 0) (k := 6) (by decide) rfl)
end CB
