/-! the reference's object: delays, queues, the end of a day -/
section QE
variable {M : qHp} {c : Nat → Int32} {R : Nat → Sg} {A : Nat → Nat → Int32}
def dyF (s : Sg) (d : Int32) : Nat → Int64
  | 0 => 0
  | b + 1 => dyF s d b ||| (if s (11 + b) 9 = d then 1 <<< ((nI b).toInt64 &&& 63) else 0)
def quOK (s : Sg) (m : Int32) (p : Int32) : Prop := (0 ≤ m ∧ m ≤ 2) ∧ 0 ≤ p ∧ p ≤ s 6 (nN m) - 1
/-- what is left to be sorted -/
def lfF (s : Sg) : Nat → Int32
  | 0 => 0
  | b + 1 => lfF s b + (s (11 + b) 4 + s (11 + b) 5)
/-- the day after k minutes -/
def dyN (s : Sg) (k : Nat) : Sg := itF (fun _ => mnF) k s
def msV (s : Sg) (i : Nat) (v : Int32) : Int32 := smF (dyN (u2 s 1 i v) (1440 - nN (s 0 0))) 8 (-6) (nN (s 0 1))
def dyOK (s : Sg) : Prop := ∃ t n, t ≤ 1440 ∧ n ≤ 40 ∧ s 0 0 = nI t ∧ s 0 1 = nI n ∧ (∀ k, k < 1440 - t → mnOK (dyN s k)) ∧ dyN s (1440 - t) 0 1 = nI n
def leF (s : Sg) (i : Nat) (p : Int32) : Nat → Nat → Int32
  | 0, _ => -6
  | k + 1, v => if isF (nI i) (nI v) = true then (if msV s i (nI v) ≤ p then nI v else leF s i p k (v + 1)) else -6
def leOK (i p : Int32) : Prop := (i = 2 ∨ (6 ≤ i ∧ i ≤ 8)) ∧ 0 ≤ p
end QE
