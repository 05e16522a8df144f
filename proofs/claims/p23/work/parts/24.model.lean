/-! the reference's minute, on: a machine's minute, the hands, the minute -/
def soF (s : Sg) (m b q : Nat) : Sg :=
  let many := if s (11 + b) 4 ≤ s 1 (6 + m) then s (11 + b) 4 else s 1 (6 + m)
  let all := s 3 3 + s 4 3 + s 5 3
  let bad0 := (all + many) * s 1 1 / 1000 - all * s 1 1 / 1000
  let bad := if many ≤ bad0 then many else bad0
  let s1 := u2 s (3 + m) 3 (s (3 + m) 3 + many)
  let s2 := u2 s1 (11 + b) 4 (s1 (11 + b) 4 - many)
  let s3 := u2 s2 (11 + b) 6 (s2 (11 + b) 6 + many - bad)
  let s4 := rjF s3 b q bad
  if s4 (11 + b) 4 = 0 then edF (u2 s4 (3 + m) 0 (-6)) b else s4
theorem so_h {s : Sg} {m b q : Nat} {x y z many bad : Int32} (hm : m < 3) (hq : s (11 + b) 5 = 0 → s 0 4 = nI q ∧ q < 40) :
    ¬ bad ≤ 0 → (u2 (u2 (u2 s (3 + m) 3 x) (11 + b) 4 y) (11 + b) 6 z) (11 + b) 5 = 0 → (u2 (u2 (u2 s (3 + m) 3 x) (11 + b) 4 y) (11 + b) 6 z) 0 4 = nI q ∧ q < 40 := by
  intro _ h
  have e1 : (u2 (u2 (u2 s (3 + m) 3 x) (11 + b) 4 y) (11 + b) 6 z) (11 + b) 5 = s (11 + b) 5 := by
    rw [u2_at, if_neg (by omega), u2_at, if_neg (by omega), u2_at, if_neg (by omega)]
  have e2 : (u2 (u2 (u2 s (3 + m) 3 x) (11 + b) 4 y) (11 + b) 6 z) 0 4 = s 0 4 := by
    rw [u2_at, if_neg (by omega), u2_at, if_neg (by omega), u2_at, if_neg (by omega)]
  rw [e1] at h
  rw [e2]
  exact hq h
def rnT (s : Sg) (m : Nat) : Sg := if s (3 + m) 0 = -6 then (if s 6 m ≤ 0 then s else tkF s m (nN (s (7 + m) 0)) (nN (s 6 m) - 1)) else s
def dqS (m : Nat) (i : Nat) (s : Sg) : Sg := dlF s (nN (s (7 + m) i)) 1
theorem dl_o {s : Sg} {b g j : Nat} {d : Int32} (h : g < 11 ∨ j ≠ 9) : dlF s b d g j = s g j := by
  unfold dlF
  split
  · rw [u2_at, if_neg (by omega)]
  · rfl
theorem dq_o {s : Sg} {m k g j : Nat} (h : g < 11 ∨ j ≠ 9) : itF (dqS m) k s g j = s g j := by
  induction k with
  | zero => rfl
  | succ k ih =>
    show dlF (itF (dqS m) k s) (nN (itF (dqS m) k s (7 + m) k)) 1 g j = _
    rw [dl_o h, ih]
def rnU (s : Sg) (m : Nat) : Sg :=
  let s2 := itF (dqS m) (nN (s 6 m)) s
  if s2 (3 + m) 1 ≤ 0 then soF s2 m (nN (s2 (3 + m) 0)) (nN (s2 0 4)) else u2 s2 (3 + m) 1 (s2 (3 + m) 1 - 1)
def rnS (s : Sg) (m : Nat) : Sg := if rnT s m (3 + m) 0 = -6 then rnT s m else rnU (rnT s m) m
def rnB (s : Sg) (m : Nat) : Int32 := if rnT s m (3 + m) 0 = -6 then 0 else 1
def rnOK (s : Sg) (m : Nat) : Prop :=
  (s (3 + m) 0 = -6 → ¬ s 6 m ≤ 0 → ∃ b q, b < 40 ∧ q < 40 ∧ s 6 m = nI (q + 1) ∧ s (7 + m) 0 = nI b) ∧
  (¬ rnT s m (3 + m) 0 = -6 → ∃ n b, n ≤ 40 ∧ b < 40 ∧ rnT s m 6 m = nI n ∧ (∀ i, i < n → ∃ c, c < 40 ∧ rnT s m (7 + m) i = nI c) ∧ rnT s m (3 + m) 0 = nI b ∧ (rnT s m (11 + b) 5 = 0 → ∃ q, q < 40 ∧ rnT s m 0 4 = nI q))
def hdI (p : Int32 × Sg) (b : Nat) : Int32 := if p.2 (11 + b) 5 ≤ p.1 then p.2 (11 + b) 5 else p.1
def hdS (p : Int32 × Sg) : Int32 × Sg :=
  let b := nN (p.2 10 0)
  let its := hdI p b
  let s1 := u2 p.2 (11 + b) 5 (p.2 (11 + b) 5 - its)
  let s2 := u2 s1 (11 + b) 6 (s1 (11 + b) 6 + its)
  (p.1 - its, if s2 (11 + b) 5 = 0 then edF (itF (shS 10) (nN (s2 0 4 - 1)) (u2 s2 0 4 (s2 0 4 - 1))) b else s2)
def hdL : Nat → Int32 × Sg → Sg
  | 0, p => p.2
  | k + 1, p => if p.1 ≤ 0 then p.2 else if p.2 0 4 ≤ 0 then p.2 else hdL k (hdS p)
def hdOK : Nat → Int32 × Sg → Prop
  | 0, p => p.1 ≤ 0 ∨ p.2 0 4 ≤ 0
  | k + 1, p => ¬ p.1 ≤ 0 → ¬ p.2 0 4 ≤ 0 → (∃ b n, b < 40 ∧ n < 40 ∧ p.2 10 0 = nI b ∧ p.2 0 4 = nI (n + 1)) ∧ hdOK k (hdS p)
theorem ar_ln (q : Nat) : (160 + nI q : Int32) = nI (160 + q) := nI_add 160 q
/-- what a minute costs, by c machines that ran -/
def mnC (s : Sg) (c : Int32) : Int32 := c + (if s 0 0 < s 1 4 then s 1 2 else if s 1 5 = 1 then (if s 0 4 ≤ 0 then 0 else 2 * s 1 2) else 0)
def mnH (k : Nat) (s : Sg) : Sg := if s 0 0 < s 1 4 then hdL k (s 1 2 * s 1 3, s) else if s 1 5 = 1 then hdL k (s 1 2 * s 1 3, s) else s
def mn0 (s : Sg) : Sg := itF lvS (nN (s 0 1)) (itF cmS (nN (s 0 1)) s)
def mn1 (s : Sg) : Sg := rnS (rnS (rnS (mn0 s) 0) 1) 2
def mnK (s : Sg) : Int32 := rnB (mn0 s) 0 + rnB (rnS (mn0 s) 0) 1 + rnB (rnS (rnS (mn0 s) 0) 1) 2
def mnF (s : Sg) : Sg :=
  let s2 := mnH 40 (mn1 s)
  let s3 := u2 s2 0 3 (s2 0 3 + mnC (mn1 s) (mnK s))
  u2 s3 0 0 (s3 0 0 + 1)
def mnOK (s : Sg) : Prop := (∃ n, n ≤ 40 ∧ s 0 1 = nI n ∧ (∀ b, b < n → cmOK n (itF cmS b s) b) ∧ (itF cmS n s) 0 1 = nI n ∧
    (∀ b, b ≤ n → (itF lvS b (itF cmS n s)) 0 1 = nI n) ∧ (∀ b, b < n → ∃ r, r < 8 ∧ (itF lvS b (itF cmS n s)) (11 + b) 2 = nI r)) ∧
  rnOK (mn0 s) 0 ∧ rnOK (rnS (mn0 s) 0) 1 ∧ rnOK (rnS (rnS (mn0 s) 0) 1) 2 ∧ hdOK 40 (mn1 s 1 2 * mn1 s 1 3, mn1 s)
theorem rn_if {s : Sg} {m : Nat} : (if rnB s m = 0 then (0 : Int32) else 1) = rnB s m := by
  unfold rnB; split <;> simp
theorem rn_01 {s : Sg} {m : Nat} : rnB s m = 0 ∨ rnB s m = 1 := by
  unfold rnB; split <;> simp