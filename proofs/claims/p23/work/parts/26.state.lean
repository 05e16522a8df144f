/-! the reference's object: history, slots, changes -/
section QM
variable {M : qHp} {c : Nat → Int32} {R : Nat → Sg} {A : Nat → Nat → Int32}
/-- what is laid between the arrays of states -/
def fl3 (R : Nat → Sg) : Nat → Int32 := flat fun i => R (2 + i)
def fl4 (R : Nat → Sg) : Nat → Int32 := flat fun i => R (8 + i)
theorem cp_in {P : Nat → Sg} {s : Sg} {k : Nat} : cpF (enc s) (flat P) 0 (640 * k) 640 = flat (us P k s) := by
  funext j
  unfold cpF flat us
  by_cases h : 640 * k ≤ j ∧ j < 640 * k + 640
  · rw [if_pos h, if_pos (by omega)]; congr 1; omega
  · rw [if_neg h, if_neg (by omega)]
theorem cp_out {P : Nat → Sg} {f : Nat → Int32} {k j : Nat} (hj : j < 640) : cpF (flat P) f (640 * k) 0 640 j = enc (P k) j := by
  unfold cpF flat
  rw [if_pos (by omega)]
  rw [show (640 * k + (j - 0)) / 640 = k by omega, show (640 * k + (j - 0)) % 640 = j by omega]
theorem cp_both {f g : Nat → Int32} {j : Nat} (hj : j < 640) : cpF f g 0 0 640 j = f j := by
  unfold cpF
  rw [if_pos (by omega)]; congr 1; omega
theorem wm_now2 {f : Nat → Int32} {s : Sg} (h : ∀ j, j < 640 → f j = enc s j) : hU (wm M c R A) 628 (8, ia 640 f) = wm M c (us R 0 s) A := by
  rw [ia_ext h]; exact wm_now
theorem wm_then2 {f : Nat → Int32} {s : Sg} (h : ∀ j, j < 640 → f j = enc s j) : hU (wm M c R A) 629 (8, ia 640 f) = wm M c (us R 1 s) A := by
  rw [ia_ext h]; exact wm_then
/-- a state is recorded: the number of those that are kept, the states -/
def rcK (k : Nat) : Nat := if k = 6 then 6 else k + 1
def rcR (R : Nat → Sg) (k : Nat) : Nat → Sg := if k = 6 then us (fun i => if 2 ≤ i ∧ i < 7 then R (i + 1) else R i) 7 (R 0) else us R (2 + k) (R 0)
def shP (R : Nat → Sg) (n j : Nat) : Int32 := if j < n then flat (fun i => R (2 + i)) (j + 640) else flat (fun i => R (2 + i)) j
theorem i640 (k : Nat) : (640 * nI k : Int32) = nI (640 * k) := by rw [show (640 * nI k : Int32) = nI 640 * nI k from rfl, pk_mul]
theorem wm_past {f : Nat → Int32} : hU (wm M c R A) 630 (8, ia 3840 f) = hU (wm M c R A) 630 (8, ia 3840 f) := rfl
end QM
