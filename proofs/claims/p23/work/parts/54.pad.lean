/-! the class: the pad, reading what is on it -/
section KP
variable {M : qHp} {K : Nat → Sg} {d v x : Nat → Int32} {y : Nat → Nat} {P : Nat}
/-- the pad holds y -/
def pxOK (d x : Nat → Int32) (y : Nat → Nat) (P : Nat) : Prop := P ≤ 80 ∧ d 2 = nI P ∧ ∀ k, k < P → x k = nI (y k) ∧ 33 ≤ y k ∧ y k ≤ 126
theorem kTp : hT (kW M K d v x) 513 4 = true := hT_of k_513
theorem kq_0 : hG (kW M K d v x) 513 4 0 = some (.ref 514) := hG_of k_513
theorem kq_2 : hG (kW M K d v x) 513 4 2 = some (.int (d 3)) := hG_of k_513
theorem kq_3 : hG (kW M K d v x) 513 4 3 = some (.int (d 4)) := hG_of k_513
theorem kq_4 : hG (kW M K d v x) 513 4 4 = some (.int (d 5)) := hG_of k_513
theorem kq_5 : hG (kW M K d v x) 513 4 5 = some (.int (d 6)) := hG_of k_513
theorem kq_6 : hG (kW M K d v x) 513 4 6 = some (.int (d 7)) := hG_of k_513
theorem kC_p {q j : Nat} {w : Int32} (h : q ≠ 513) (hj : 2 ≤ j) : kC K (up d j w) v x q = kC K d v x q := by
  unfold kC
  simp only [h, if_false]
  rw [up_n (show 0 ≠ j by omega), up_n (show 1 ≠ j by omega)]
theorem kw_1 {w : Int32} : hP (kW M K d v x) 513 4 1 .int (.int w) = some (kW M K (up d 2 w) v x) := by
  rw [hP_of k_513 (Nat.le_of_ble_eq_true rfl) rfl]; exact congrArg some (kW_up (by omega) rfl fun q _ hn => kC_p hn (by omega))
theorem kw_2 {w : Int32} : hP (kW M K d v x) 513 4 2 .int (.int w) = some (kW M K (up d 3 w) v x) := by
  rw [hP_of k_513 (Nat.le_of_ble_eq_true rfl) rfl]; exact congrArg some (kW_up (by omega) rfl fun q _ hn => kC_p hn (by omega))
theorem kw_4 {w : Int32} : hP (kW M K d v x) 513 4 4 .int (.int w) = some (kW M K (up d 5 w) v x) := by
  rw [hP_of k_513 (Nat.le_of_ble_eq_true rfl) rfl]; exact congrArg some (kW_up (by omega) rfl fun q _ hn => kC_p hn (by omega))
theorem kw_5 {w : Int32} : hP (kW M K d v x) 513 4 5 .int (.int w) = some (kW M K (up d 6 w) v x) := by
  rw [hP_of k_513 (Nat.le_of_ble_eq_true rfl) rfl]; exact congrArg some (kW_up (by omega) rfl fun q _ hn => kC_p hn (by omega))
theorem kw_6 {w : Int32} : hP (kW M K d v x) 513 4 6 .int (.int w) = some (kW M K (up d 7 w) v x) := by
  rw [hP_of k_513 (Nat.le_of_ble_eq_true rfl) rfl]; exact congrArg some (kW_up (by omega) rfl fun q _ hn => kC_p hn (by omega))
theorem ch_ok : ∀ u, u < 256 → ((nI u).toUInt32 % 65536).toInt32 = nI u := by decide +kernel
theorem kw_3 {u : Nat} (hu : u < 256) : hP (kW M K d v x) 513 4 3 .char (.int (nI u)) = some (kW M K (up d 4 (nI u)) v x) := by
  rw [hP_of k_513 (Nat.le_of_ble_eq_true rfl) (by unfold qFit; exact decide_eq_true (ch_ok u hu))]; exact congrArg some (kW_up (by omega) rfl fun q _ hn => kC_p hn (by omega))
theorem k_514 : (kW M K d v x).2 514 = some (10, ia 80 x) := rfl
theorem kx_l {k : Nat} (hk : k < 80) : hL (kW M K d v x) 10 514 (nI k) = some (.int (x k)) := by
  have hc : (nI k).toNatClampNeg = k := nI_clamp (by omega)
  unfold hL
  rw [k_514]
  simp only [Option.bind_some]
  rw [if_pos ⟨trivial, nI_pos (by omega)⟩, hc]
  exact ia_at hk
theorem sr_256 (hy : pxOK d x y P) (p : Nat) : srP y P p < 256 := by
  unfold srP; split
  · rename_i h; have := (hy.2.2 p h).2.2; omega
  · omega
end KP
