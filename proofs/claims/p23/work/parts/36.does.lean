/-! orders that are carried out -/
def mdV (s : Sg) (u : Nat) (a b e : Int32) : Int32 := if u = 99 then (if 0 ≤ a ∧ a ≤ 7 then (if s 0 0 ≤ b ∧ b ≤ 1439 then 0 else -2) else -1) else if u = 116 then maP s a else if u = 115 then (if isF 2 a = true then 0 else -2) else maM s 0 a b e
def shP1 (u : Nat) : Int32 := if u = 108 then 0 else if u = 102 then 1 else 2
def dsF (s : Sg) (u : Nat) (a b e : Int32) : Sg := if u = 99 then u2 s 2 (nN a) b else if u = 116 then dyN s (nN a) else if u = 115 then u2 s 1 2 a else u2 (bgF s (nN (s 0 1)) (shP1 u) a b e) 0 1 (s 0 1 + 1)
/-- what an order wants of the day when nothing forbids it -/
def dsOK (s : Sg) (u : Nat) (a : Int32) : Prop := (u = 116 → ∃ n, n ≤ 1440 ∧ a = nI n ∧ ∀ k, k < n → mnOK (dyN s k)) ∧ (knP u = 3 → ∃ n, n < 40 ∧ s 0 1 = nI n)
section QJ
variable {M : qHp} {c : Nat → Int32} {R : Nat → Sg} {A : Nat → Nat → Int32} {y : Nat → Nat} {P : Nat}
theorem kn_6 {u : Nat} (h : knP u ≠ 0) : u = 108 ∨ u = 102 ∨ u = 112 ∨ u = 99 ∨ u = 115 ∨ u = 116 := by
  unfold knP at h
  by_cases h1 : u = 108 ∨ u = 102 ∨ u = 112
  · omega
  · rw [if_neg h1] at h
    by_cases h2 : u = 99
    · omega
    · rw [if_neg h2] at h
      by_cases h3 : u = 115 ∨ u = 116
      · omega
      · rw [if_neg h3] at h; exact absurd rfl h
theorem md_n {n : Nat} {s : Sg} {m p r x : Int32} (h1 : s 0 1 = nI n) (h2 : maM s m p r x = 0) : n ≠ 40 := by
  intro h
  unfold maM at h2
  subst h
  split at h2
  · exact absurd h2 (by decide)
  split at h2
  · exact absurd h2 (by decide)
  rw [if_pos (show s 0 1 = 40 from h1)] at h2
  exact absurd h2 (by decide)
theorem dn_nI (s : Sg) (n : Nat) : dyN s n = itF (fun _ => mnF) n s := rfl
section S146
variable {k u : Nat} {a b e : Int32}
end S146
/-- carrying out, from the k-th order on -/
def cyL (y : Nat → Nat) (P : Nat) : Nat → Nat → Sg → Nat × Sg
  | 0, k, s => (k, s)
  | f + 1, k, s =>
    if mdV s (srP y P (psP y P k)) (nI (orP y P (psP y P k)).2.1) (nI (orP y P (psP y P k)).2.2.1) (nI (orP y P (psP y P k)).2.2.2.1) = 0 then cyL y P f (k + 1) (dsF s (srP y P (psP y P k)) (nI (orP y P (psP y P k)).2.1) (nI (orP y P (psP y P k)).2.2.1) (nI (orP y P (psP y P k)).2.2.2.1)) else (k, s)
theorem md_k {s : Sg} {u : Nat} {a b e b' e' : Int32} (hu : knP u ≠ 0) (hb : knP u ≠ 1 → b' = b) (he : knP u = 3 → e' = e) : mdV s u a b' e' = mdV s u a b e ∧ dsF s u a b' e' = dsF s u a b e := by
  rcases kn_6 hu with rfl | rfl | rfl | rfl | rfl | rfl
  · rw [hb (by decide), he (by decide)]; exact ⟨rfl, rfl⟩
  · rw [hb (by decide), he (by decide)]; exact ⟨rfl, rfl⟩
  · rw [hb (by decide), he (by decide)]; exact ⟨rfl, rfl⟩
  · rw [hb (by decide)]; unfold mdV dsF; constructor <;> simp (config := {decide := true}) only [if_true, if_false]
  · unfold mdV dsF; constructor <;> simp (config := {decide := true}) only [if_true, if_false]
  · unfold mdV dsF; constructor <;> simp (config := {decide := true}) only [if_true, if_false]
end QJ
