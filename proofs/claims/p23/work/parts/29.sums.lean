/-! the reference's object: more that is asked -/
section QC
variable {M : qHp} {c : Nat → Int32} {R : Nat → Sg} {A : Nat → Nat → Int32}
def maP (s : Sg) (x : Int32) : Int32 := if 1 ≤ x then (if x ≤ 1440 - s 0 0 then 0 else -5) else -2
theorem wn_mx {m i : Nat} (hm : m < 3) (hi : i < 5) : hLI (wm M c R A) 628 (19 + 5 * nI m + nI i) = some (.int (R 0 (3 + m) i)) := (congrArg (fun q => hLI q 628 (19 + 5 * nI m + nI i)) wm_now').trans (ml (k := 19 + 5 * m + i) (by omega) (loc_mach hm hi) (by rw [show (19 + 5 * nI m + nI i : Int32) = nI 19 + nI 5 * nI m + nI i from rfl, pk_mul, nI_add, nI_add]))
def mcV (s : Sg) (m w : Nat) : Int32 := if w = 1 then s 6 m else s (3 + m) (w - 1)
/-- a sum over batches -/
def smF (s : Sg) (w : Nat) (rt : Int32) : Nat → Int32
  | 0 => 0
  | b + 1 => smF s w rt b + (if rt = -6 ∨ s (11 + b) 2 = rt then s (11 + b) w else 0)
end QC
