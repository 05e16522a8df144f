/-! texts, and carrying them out -/
theorem or_le {y : Nat → Nat} {P p : Nat} (h : p ≤ P) : p ≤ (orP y P p).2.2.2.2 ∧ (orP y P p).2.2.2.2 ≤ P ∧ ((orP y P p).1 = true → p + 2 ≤ (orP y P p).2.2.2.2 ∧ knP (srP y P p) ≠ 0 ∧ p < P) := by
  have hlt : knP (srP y P p) ≠ 0 → p < P := by
    intro h
    rcases Nat.lt_or_ge p P with q | q
    · exact q
    · unfold srP at h; rw [if_neg (by omega)] at h; exact absurd rfl h
  unfold orP
  by_cases k3 : knP (srP y P p) = 3
  · rw [if_pos k3]
    have hl := hlt (by omega)
    unfold o3P
    dsimp only
    have b1 := @nu_le y P (p + 1) (by omega)
    by_cases f1 : (nuP y P (p + 1)).1 = false
    · rw [if_pos f1]; simp; omega
    rw [if_neg f1]
    have b2 := @sg_le y P 62 _ b1.2.1
    by_cases f2 : (sgP y P 62 (nuP y P (p + 1)).2.2).1 = false
    · rw [if_pos f2]; simp; omega
    rw [if_neg f2]
    have b3 := @dg_le y P _ b2.2.1
    by_cases f3 : (dgP y P (sgP y P 62 (nuP y P (p + 1)).2.2).2).1 = false
    · rw [if_pos f3]; simp; omega
    rw [if_neg f3]
    have b4 := @sg_le y P 64 _ b3.2.1
    by_cases f4 : (sgP y P 64 (dgP y P (sgP y P 62 (nuP y P (p + 1)).2.2).2).2.2).1 = false
    · rw [if_pos f4]; simp; omega
    rw [if_neg f4]
    have b5 := @nu_le y P _ b4.2.1
    by_cases f5 : (nuP y P (sgP y P 64 (dgP y P (sgP y P 62 (nuP y P (p + 1)).2.2).2).2.2).2).1 = false
    · rw [if_pos f5]; simp; omega
    rw [if_neg f5]
    have q1 := b1.2.2 (by simpa using f1)
    exact ⟨by dsimp only; omega, by dsimp only; omega, fun _ => ⟨by dsimp only; omega, by omega, hl⟩⟩
  rw [if_neg k3]
  by_cases k2 : knP (srP y P p) = 2
  · rw [if_pos k2]
    have hl := hlt (by omega)
    unfold o2P
    dsimp only
    have b1 := @dg_le y P (p + 1) (by omega)
    by_cases f1 : (dgP y P (p + 1)).1 = false
    · rw [if_pos f1]; simp; omega
    rw [if_neg f1]
    have b2 := @sg_le y P 61 _ b1.2.1
    by_cases f2 : (sgP y P 61 (dgP y P (p + 1)).2.2).1 = false
    · rw [if_pos f2]; simp; omega
    rw [if_neg f2]
    have b3 := @nu_le y P _ b2.2.1
    by_cases f3 : (nuP y P (sgP y P 61 (dgP y P (p + 1)).2.2).2).1 = false
    · rw [if_pos f3]; simp; omega
    rw [if_neg f3]
    have q1 := b1.2.2 (by simpa using f1)
    exact ⟨by dsimp only; omega, by dsimp only; omega, fun _ => ⟨by dsimp only; omega, by omega, hl⟩⟩
  rw [if_neg k2]
  by_cases k1 : knP (srP y P p) = 1
  · rw [if_pos k1]
    have hl := hlt (by omega)
    unfold o1P
    dsimp only
    have b1 := @nu_le y P (p + 1) (by omega)
    by_cases f1 : (nuP y P (p + 1)).1 = false
    · rw [if_pos f1]; simp; omega
    rw [if_neg f1]
    have q1 := b1.2.2 (by simpa using f1)
    exact ⟨by dsimp only; omega, by dsimp only; omega, fun _ => ⟨by dsimp only; omega, by omega, hl⟩⟩
  rw [if_neg k1]
  exact ⟨Nat.le_refl _, h, fun q => absurd q (by simp)⟩
/-- a text from a place on: whether it is one, where reading stops, how many orders there are -/
def txL (y : Nat → Nat) (P : Nat) : Nat → Nat → Nat → Bool × Nat × Nat
  | 0, p, o => (false, p, o)
  | f + 1, p, o => if (orP y P p).1 = false then (false, (orP y P p).2.2.2.2, o) else if (sgP y P 59 (orP y P p).2.2.2.2).1 = false then (decide ((orP y P p).2.2.2.2 = P), (orP y P p).2.2.2.2, o + 1) else txL y P f (sgP y P 59 (orP y P p).2.2.2.2).2 (o + 1)
/-- where the k-th order begins -/
def psP (y : Nat → Nat) (P : Nat) : Nat → Nat
  | 0 => 0
  | k + 1 => (orP y P (psP y P k)).2.2.2.2 + 1
section QI
variable {M : qHp} {c : Nat → Int32} {R : Nat → Sg} {A : Nat → Nat → Int32} {y : Nat → Nat} {P : Nat}
def opH (A' : Nat → Nat → Int32) (o u : Nat) (r : qO5) : Prop := r.1 = true ∧ A' 2 (4 * o) = nI u ∧ A' 2 (4 * o + 1) = nI r.2.1 ∧ (knP u ≠ 1 → A' 2 (4 * o + 2) = nI r.2.2.1) ∧ (knP u = 3 → A' 2 (4 * o + 3) = nI r.2.2.2.1)
/-- the first n orders of the pad are laid down -/
def ohH (A' : Nat → Nat → Int32) (y : Nat → Nat) (P n : Nat) : Prop := ∀ k, k < n → opH A' k (srP y P (psP y P k)) (orP y P (psP y P k))
theorem sg_f {ch p : Nat} (h : (sgP y P ch p).1 = false) : (sgP y P ch p).2 = p := by
  unfold sgP at h ⊢
  split
  · rfl
  · rename_i q; rw [if_neg q] at h; exact absurd h (by simp)
theorem sg_t {ch p : Nat} (h : ¬ (sgP y P ch p).1 = false) : (sgP y P ch p).2 = p + 1 := by
  unfold sgP at h ⊢
  split
  · rename_i q; rw [if_pos q] at h; exact absurd rfl h
  · rfl
end QI
