/-! the reference's minute, on: what goes, what a machine takes, rejects, ends -/
def lvF (s : Sg) (b : Nat) : Sg :=
  let s1 := u2 s (11 + b) 7 (s (11 + b) 7 + s (11 + b) 6)
  let s2 := u2 s1 (11 + b) 6 0
  msF s2 b
def lvS (b : Nat) (s : Sg) : Sg := if s 2 (nN (s (11 + b) 2)) = s 0 0 then (if s 0 0 < s (11 + b) 3 then s else lvF s b) else s
def edF (s : Sg) (b : Nat) : Sg := if s (11 + b) 4 = 0 then (if s (11 + b) 5 = 0 then u2 s (11 + b) 10 (s 0 0) else s) else s
/-- what stands behind moves up by one -/
def shS (g : Nat) (i : Nat) (s : Sg) : Sg := u2 s g i (s g (i + 1))
theorem sh_o {g k : Nat} {s : Sg} {g' i : Nat} (h : g' ≠ g) : itF (shS g) k s g' i = s g' i := by
  induction k with
  | zero => rfl
  | succ k ih =>
    show shS g k (itF (shS g) k s) g' i = _
    unfold shS
    rw [u2_at, if_neg (fun q => h q.1)]
    exact ih
def tkF (s : Sg) (m b q : Nat) : Sg :=
  let s1 := u2 s 6 m (s 6 m - 1)
  let s2 := itF (shS (7 + m)) q s1
  let s3 := u2 s2 (3 + m) 0 (nI b)
  let s4 := if s3 (3 + m) 2 = s3 (11 + b) 2 then s3 else if s3 1 0 ≤ 0 then s3 else
    let t1 := u2 s3 (3 + m) 1 (s3 1 0)
    let t2 := u2 t1 (3 + m) 4 (t1 (3 + m) 4 + 1)
    dlF t2 b 2
  u2 s4 (3 + m) 2 (s4 (11 + b) 2)
theorem ar_q0 (m : Nat) : (39 + 40 * nI m : Int32) = nI (39 + 40 * m + 0) := by
  rw [show (39 + 40 * nI m : Int32) = nI 39 + nI 40 * nI m from rfl, pk_mul, nI_add]; rfl
theorem ar_qq (m q : Nat) : (39 + 40 * nI m + nI q : Int32) = nI (39 + 40 * m + q) := by
  rw [show (39 + 40 * nI m + nI q : Int32) = nI 39 + nI 40 * nI m + nI q from rfl, pk_mul, nI_add, nI_add]
def rjF (s : Sg) (b q : Nat) (many : Int32) : Sg :=
  if many ≤ 0 then s else
    let s1 := if s (11 + b) 5 = 0 then
      let t := u2 s 10 q (nI b)
      u2 t 0 4 (t 0 4 + 1) else s
    let s2 := u2 s1 (11 + b) 5 (s1 (11 + b) 5 + many)
    let s3 := u2 s2 0 2 (s2 0 2 + many)
    dlF s3 b 3