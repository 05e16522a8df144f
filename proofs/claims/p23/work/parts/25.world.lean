/-! the reference's object: its numbers c (kept, padded, at, ordered), its states R (0 now, 1 then, 2 to 7 past, 8 and 9 slots), its small arrays A (held, pad, orders) -/
def flat (P : Nat → Sg) (j : Nat) : Int32 := enc (P (j / 640)) (j % 640)
def wmC (c : Nat → Int32) (R : Nat → Sg) (A : Nat → Nat → Int32) (j : Nat) : Option qCel := match j with
  | 0 => some (7, [.ref 628, .ref 629, .ref 630, .int (c 0), .ref 631, .ref 632, .ref 633, .int (c 1), .int (c 2), .ref 634, .int (c 3)])
  | 1 => some (8, ia 640 (enc (R 0)))
  | 2 => some (8, ia 640 (enc (R 1)))
  | 3 => some (8, ia 3840 (flat fun i => R (2 + i)))
  | 4 => some (8, ia 1280 (flat fun i => R (8 + i)))
  | 5 => some (9, ia 2 (A 0))
  | 6 => some (8, ia 80 (A 1))
  | 7 => some (8, ia 112 (A 2))
  | _ => none
def wm (M : qHp) (c : Nat → Int32) (R : Nat → Sg) (A : Nat → Nat → Int32) : qHp := (M.1, fun a => if 627 ≤ a ∧ a < 635 then wmC c R A (a - 627) else M.2 a)
def us (R : Nat → Sg) (j : Nat) (s : Sg) : Nat → Sg := fun i => if i = j then s else R i
def ua (A : Nat → Nat → Int32) (j k : Nat) (v : Int32) : Nat → Nat → Int32 := fun i => if i = j then up (A j) k v else A i
theorem us_s {R : Nat → Sg} {j : Nat} {s : Sg} : us R j s j = s := if_pos rfl
theorem us_ne {R : Nat → Sg} {i j : Nat} {s : Sg} (h : i ≠ j) : us R j s i = R i := if_neg h
theorem us_us {R : Nat → Sg} {j : Nat} {s t : Sg} : us (us R j s) j t = us R j t := by
  funext i
  unfold us
  split <;> rfl
theorem us_id {R : Nat → Sg} {j : Nat} : us R j (R j) = R := by
  funext i
  unfold us
  split
  · rename_i e; rw [e]
  · rfl
section WM
variable {M : qHp} {c : Nat → Int32} {R : Nat → Sg} {A : Nat → Nat → Int32}
theorem wm_1 : (wm M c R A).1 = M.1 := rfl
theorem wm_wm {c' : Nat → Int32} {R' : Nat → Sg} {A' : Nat → Nat → Int32} : wm (wm M c R A) c' R' A' = wm M c' R' A' := by
  refine Prod.ext rfl (funext fun q => ?_)
  simp only [wm]
  split <;> rfl
theorem wm_at {j : Nat} (h : j < 8) : (wm M c R A).2 (627 + j) = wmC c R A j := by
  simp only [wm]
  rw [if_pos (by omega), Nat.add_sub_cancel_left]
theorem wm_out {a : Nat} (h : a < 627 ∨ 635 ≤ a) : (wm M c R A).2 a = M.2 a := if_neg (by omega)
theorem wm_up {j : Nat} {d : qCel} {c' : Nat → Int32} {R' : Nat → Sg} {A' : Nat → Nat → Int32} (h : j < 8) (h1 : wmC c' R' A' j = some d) (h2 : ∀ i, i < 8 → i ≠ j → wmC c' R' A' i = wmC c R A i) : hU (wm M c R A) (627 + j) d = wm M c' R' A' := by
  refine Prod.ext rfl (funext fun q => ?_)
  simp only [hU, wm]
  by_cases hq : q = 627 + j
  · rw [if_pos hq, if_pos (by omega), hq, Nat.add_sub_cancel_left, h1]
  · rw [if_neg hq]
    by_cases hr : 627 ≤ q ∧ q < 635
    · rw [if_pos hr, if_pos hr, h2 (q - 627) (by omega) (by omega)]
    · rw [if_neg hr, if_neg hr]
theorem wm_0 : (wm M c R A).2 627 = some (7, [.ref 628, .ref 629, .ref 630, .int (c 0), .ref 631, .ref 632, .ref 633, .int (c 1), .int (c 2), .ref 634, .int (c 3)]) := wm_at (j := 0) (by omega)
theorem wm_T : hT (wm M c R A) 627 7 = true := hT_of wm_0
theorem wg_0 : hG (wm M c R A) 627 7 0 = some (.ref 628) := hG_of wm_0
theorem wg_1 : hG (wm M c R A) 627 7 1 = some (.ref 629) := hG_of wm_0
theorem wg_2 : hG (wm M c R A) 627 7 2 = some (.ref 630) := hG_of wm_0
theorem wg_3 : hG (wm M c R A) 627 7 3 = some (.int (c 0)) := hG_of wm_0
theorem wg_4 : hG (wm M c R A) 627 7 4 = some (.ref 631) := hG_of wm_0
theorem wg_5 : hG (wm M c R A) 627 7 5 = some (.ref 632) := hG_of wm_0
theorem wg_6 : hG (wm M c R A) 627 7 6 = some (.ref 633) := hG_of wm_0
theorem wg_7 : hG (wm M c R A) 627 7 7 = some (.int (c 1)) := hG_of wm_0
theorem wg_8 : hG (wm M c R A) 627 7 8 = some (.int (c 2)) := hG_of wm_0
theorem wg_9 : hG (wm M c R A) 627 7 9 = some (.ref 634) := hG_of wm_0
theorem wg_10 : hG (wm M c R A) 627 7 10 = some (.int (c 3)) := hG_of wm_0
theorem wmC_c {c' : Nat → Int32} {i : Nat} (h : i ≠ 0) : wmC c' R A i = wmC c R A i := by
  match i with
  | 0 => exact absurd rfl h
  | 1 | 2 | 3 | 4 | 5 | 6 | 7 => rfl
  | n + 8 => rfl
theorem wp_3 {v : Int32} : hP (wm M c R A) 627 7 3 .int (.int v) = some (wm M (up c 0 v) R A) := by
  rw [hP_of wm_0 (Nat.le_of_ble_eq_true rfl) rfl]
  exact congrArg some (wm_up (j := 0) (by omega) rfl (fun i _ hi => wmC_c hi))
theorem wp_7 {v : Int32} : hP (wm M c R A) 627 7 7 .int (.int v) = some (wm M (up c 1 v) R A) := by
  rw [hP_of wm_0 (Nat.le_of_ble_eq_true rfl) rfl]
  exact congrArg some (wm_up (j := 0) (by omega) rfl (fun i _ hi => wmC_c hi))
theorem wp_8 {v : Int32} : hP (wm M c R A) 627 7 8 .int (.int v) = some (wm M (up c 2 v) R A) := by
  rw [hP_of wm_0 (Nat.le_of_ble_eq_true rfl) rfl]
  exact congrArg some (wm_up (j := 0) (by omega) rfl (fun i _ hi => wmC_c hi))
theorem wp_10 {v : Int32} : hP (wm M c R A) 627 7 10 .int (.int v) = some (wm M (up c 3 v) R A) := by
  rw [hP_of wm_0 (Nat.le_of_ble_eq_true rfl) rfl]
  exact congrArg some (wm_up (j := 0) (by omega) rfl (fun i _ hi => wmC_c hi))
theorem wm_R {i : Nat} {R' : Nat → Sg} (h : i ≠ 1 ∧ i ≠ 2 ∧ i ≠ 3 ∧ i ≠ 4) : wmC c R' A i = wmC c R A i := by
  match i with
  | 0 | 5 | 6 | 7 => rfl
  | 1 => omega
  | 2 => omega
  | 3 => omega
  | 4 => omega
  | n + 8 => rfl
theorem wm_A {i j : Nat} {A' : Nat → Nat → Int32} (h : ∀ k, k ≠ j → A' k = A k) (hi : i ≠ 5 + j) : wmC c R A' i = wmC c R A i := by
  match i with
  | 0 | 1 | 2 | 3 | 4 => rfl
  | 5 => simp only [wmC]; rw [h 0 (by omega)]
  | 6 => simp only [wmC]; rw [h 1 (by omega)]
  | 7 => simp only [wmC]; rw [h 2 (by omega)]
  | n + 8 => rfl
theorem wm_now {s : Sg} : mW (wm M c R A) 628 s = wm M c (us R 0 s) A := by
  refine wm_up (j := 1) (by omega) rfl fun i hi h1 => ?_
  match i with
  | 0 | 5 | 6 | 7 => rfl
  | 1 => omega
  | 2 => rfl
  | 3 => simp only [wmC]; rw [show (fun i => us R 0 s (2 + i)) = (fun i => R (2 + i)) from funext fun i => us_ne (by omega)]
  | 4 => simp only [wmC]; rw [show (fun i => us R 0 s (8 + i)) = (fun i => R (8 + i)) from funext fun i => us_ne (by omega)]
  | n + 8 => omega
theorem wm_then {s : Sg} : mW (wm M c R A) 629 s = wm M c (us R 1 s) A := by
  refine wm_up (j := 2) (by omega) rfl fun i hi h1 => ?_
  match i with
  | 0 | 5 | 6 | 7 => rfl
  | 1 => rfl
  | 2 => omega
  | 3 => simp only [wmC]; rw [show (fun i => us R 1 s (2 + i)) = (fun i => R (2 + i)) from funext fun i => us_ne (by omega)]
  | 4 => simp only [wmC]; rw [show (fun i => us R 1 s (8 + i)) = (fun i => R (8 + i)) from funext fun i => us_ne (by omega)]
  | n + 8 => omega
theorem wm_now' : wm M c R A = mW (wm M c R A) 628 (R 0) := by rw [wm_now, us_id]
theorem wm_then' : wm M c R A = mW (wm M c R A) 629 (R 1) := by rw [wm_then, us_id]
theorem wm_ia {j n k : Nat} {f : Nat → Int32} (hj : j < 8) (h : wmC c R A j = some (8, ia n f)) (hk : k < n) (hn : n < 100000) {x : Int32} (hx : x = nI k) : hLI (wm M c R A) (627 + j) x = some (.int (f k)) := by
  rw [hx]; exact hLI_nI ((wm_at hj).trans h) hk hn
theorem wa_pad {k : Nat} (hk : k < 80) : hLI (wm M c R A) 633 (nI k) = some (.int (A 1 k)) := wm_ia (j := 6) (by omega) rfl hk (by omega) rfl
theorem wa_ord {k : Nat} (hk : k < 112) : hLI (wm M c R A) 634 (nI k) = some (.int (A 2 k)) := wm_ia (j := 7) (by omega) rfl hk (by omega) rfl
theorem wa_held {k : Nat} (hk : k < 2) : hL (wm M c R A) 9 632 (nI k) = some (.int (A 0 k)) := by
  have hc : (nI k).toNatClampNeg = k := nI_clamp (by omega)
  unfold hL
  rw [show (wm M c R A).2 632 = some (9, ia 2 (A 0)) from wm_at (j := 5) (by omega)]
  simp only [Option.bind_some]
  rw [if_pos ⟨trivial, nI_pos (by omega)⟩, hc]
  exact ia_at hk
theorem wb_pad {k : Nat} {v : Int32} (hk : k < 80) : hS (wm M c R A) 8 633 (nI k) (.int v) = some (wm M c R (ua A 1 k v)) := by
  rw [hS_nI (show (wm M c R A).2 633 = some (8, ia 80 (A 1)) from wm_at (j := 6) (by omega)) hk (by omega)]
  refine congrArg some (wm_up (j := 6) (by omega) rfl fun i _ hi => wm_A (j := 1) (fun k hk => ?_) (by omega))
  unfold ua; rw [if_neg hk]
theorem wb_ord {k : Nat} {v : Int32} (hk : k < 112) : hS (wm M c R A) 8 634 (nI k) (.int v) = some (wm M c R (ua A 2 k v)) := by
  rw [hS_nI (show (wm M c R A).2 634 = some (8, ia 112 (A 2)) from wm_at (j := 7) (by omega)) hk (by omega)]
  refine congrArg some (wm_up (j := 7) (by omega) rfl fun i _ hi => wm_A (j := 2) (fun k hk => ?_) (by omega))
  unfold ua; rw [if_neg hk]
theorem wb_held {k : Nat} {v : Int32} (hk : k < 2) : hS (wm M c R A) 9 632 (nI k) (.int v) = some (wm M c R (ua A 0 k v)) := by
  have hc : (nI k).toNatClampNeg = k := nI_clamp (by omega)
  rw [hS_of (show (wm M c R A).2 632 = some (9, ia 2 (A 0)) from wm_at (j := 5) (by omega)) (nI_pos (by omega)) (by rw [hc, ia_len]; exact hk), hc, ia_set]
  refine congrArg some (wm_up (j := 5) (by omega) rfl fun i _ hi => wm_A (j := 0) (fun k hk => ?_) (by omega))
  unfold ua; rw [if_neg hk]
end WM
def cpF (f g : Nat → Int32) (fa ta c : Nat) : Nat → Int32 := fun k => if ta ≤ k ∧ k < ta + c then f (fa + (k - ta)) else g k