/-! the reference's object: history, slots, changes -/
section QM
variable {M : qHp} {c : Nat → Int32} {R : Nat → Sg} {A : Nat → Nat → Int32}
/-- what is laid between the arrays of states -/
def fl3 (R : Nat → Sg) : Nat → Int32 := flat fun i => R (2 + i)
def fl4 (R : Nat → Sg) : Nat → Int32 := flat fun i => R (8 + i)
theorem cp_in {P : Nat → Sg} {s : Sg} {k : Nat} : cpF (enc s) (flat P) 0 (640 * k) 640 = flat (us P k s) := by
  funext j
  unfold cpF flat us
  by_cases h : 640 * k ≤ j ∧ j < 640 * k + 640
  · rw [if_pos h, if_pos (by omega)]; congr 1; omega
  · rw [if_neg h, if_neg (by omega)]
theorem cp_out {P : Nat → Sg} {f : Nat → Int32} {k j : Nat} (hj : j < 640) : cpF (flat P) f (640 * k) 0 640 j = enc (P k) j := by
  unfold cpF flat
  rw [if_pos (by omega)]
  rw [show (640 * k + (j - 0)) / 640 = k by omega, show (640 * k + (j - 0)) % 640 = j by omega]
theorem cp_both {f g : Nat → Int32} {j : Nat} (hj : j < 640) : cpF f g 0 0 640 j = f j := by
  unfold cpF
  rw [if_pos (by omega)]; congr 1; omega
theorem lay_in {k : Nat} (hk : k < 6) : qRun 93 [.ref 628, .int 0, .ref 630, .int (nI (640 * k))] (wm M c R A) = some (none, wm M c (us R (2 + k) (R 0)) A) := by
  have h := @s_93 (wm M c R A) 628 630 640 3840 0 (640 * k) (enc (R 0)) (flat fun i => R (2 + i)) (wm_at (j := 1) (by omega)) (wm_at (j := 3) (by omega)) (by omega) (by omega) (by omega) (by omega) (by omega)
  refine h.trans (congrArg (fun q => some (none, q)) ?_)
  rw [cp_in]
  refine wm_up (j := 3) (by omega) ?_ fun i hi h1 => ?_
  · simp only [wmC]
    rw [show (fun i => us R (2 + k) (R 0) (2 + i)) = us (fun i => R (2 + i)) k (R 0) from funext fun i => by unfold us; by_cases h : i = k <;> simp [h]]
  · match i with
    | 0 | 5 | 6 | 7 => rfl
    | 1 => simp only [wmC]; rw [us_ne (by omega)]
    | 2 => simp only [wmC]; rw [us_ne (by omega)]
    | 3 => omega
    | 4 => simp only [wmC]; rw [show (fun i => us R (2 + k) (R 0) (8 + i)) = (fun i => R (8 + i)) from funext fun i => us_ne (by omega)]
    | n + 8 => omega
theorem lay_sl {k : Nat} (hk : k < 2) : qRun 93 [.ref 628, .int 0, .ref 631, .int (nI (640 * k))] (wm M c R A) = some (none, wm M c (us R (8 + k) (R 0)) A) := by
  have h := @s_93 (wm M c R A) 628 631 640 1280 0 (640 * k) (enc (R 0)) (flat fun i => R (8 + i)) (wm_at (j := 1) (by omega)) (wm_at (j := 4) (by omega)) (by omega) (by omega) (by omega) (by omega) (by omega)
  refine h.trans (congrArg (fun q => some (none, q)) ?_)
  rw [cp_in]
  refine wm_up (j := 4) (by omega) ?_ fun i hi h1 => ?_
  · simp only [wmC]
    rw [show (fun i => us R (8 + k) (R 0) (8 + i)) = us (fun i => R (8 + i)) k (R 0) from funext fun i => by unfold us; by_cases h : i = k <;> simp [h]]
  · match i with
    | 0 | 5 | 6 | 7 => rfl
    | 1 => simp only [wmC]; rw [us_ne (by omega)]
    | 2 => simp only [wmC]; rw [us_ne (by omega)]
    | 3 => sorry
    | 4 => omega
    | n + 8 => omega
end QM
