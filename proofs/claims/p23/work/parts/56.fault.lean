/-! the class: faults of a text, wiping, orders that are obeyed -/
section KR
variable {M : qHp} {K : Nat → Sg} {d v x : Nat → Int32} {y : Nat → Nat} {P : Nat}
/-- of a text: how its orders follow each other -/
theorem tx_spec : ∀ (f o : Nat), psP y P o ≤ P → (txL y P f (psP y P o) o).1 = true → o < (txL y P f (psP y P o) o).2.2 ∧ (∀ k, o ≤ k → k < (txL y P f (psP y P o) o).2.2 → psP y P k ≤ P ∧ (orP y P (psP y P k)).1 = true) ∧ (∀ k, o ≤ k → k + 1 < (txL y P f (psP y P o) o).2.2 → (sgP y P 59 (orP y P (psP y P k)).2.2.2.2).1 = true) ∧ ∀ k, k + 1 = (txL y P f (psP y P o) o).2.2 → (sgP y P 59 (orP y P (psP y P k)).2.2.2.2).1 = false := by
  intro f
  induction f with
  | zero => intro o h0 h; unfold txL at h; exact absurd h (by simp)
  | succ f ih =>
    intro o h0 h
    unfold txL at h ⊢
    have hl := @or_le y P (psP y P o) h0
    by_cases f1 : (orP y P (psP y P o)).1 = false
    · rw [if_pos f1] at h; exact absurd h (by simp)
    · rw [if_neg f1] at h ⊢
      have f1' : (orP y P (psP y P o)).1 = true := by simpa using f1
      by_cases f2 : (sgP y P 59 (orP y P (psP y P o)).2.2.2.2).1 = false
      · rw [if_pos f2]
        refine ⟨by dsimp only; omega, fun k k1 k2 => ?_, fun k k1 k2 => ?_, fun k k1 => ?_⟩
        · have : k = o := by dsimp only at k2; omega
          subst this; exact ⟨h0, f1'⟩
        · dsimp only at k2; omega
        · have : k = o := by dsimp only at k1; omega
          subst this; exact f2
      · rw [if_neg f2] at h ⊢
        have f4 := sg_t f2
        have b1 := @sg_le y P 59 (orP y P (psP y P o)).2.2.2.2 hl.2.1
        have e : (sgP y P 59 (orP y P (psP y P o)).2.2.2.2).2 = psP y P (o + 1) := by rw [f4]; rfl
        rw [e] at h b1 ⊢
        obtain ⟨i1, i2, i3, i4⟩ := ih (o + 1) b1.2.1 h
        refine ⟨by omega, fun k k1 k2 => ?_, fun k k1 k2 => ?_, i4⟩
        · rcases Nat.lt_or_ge o k with q | q
          · exact i2 k q k2
          · have : k = o := by omega
            subst this; exact ⟨h0, f1'⟩
        · rcases Nat.lt_or_ge o k with q | q
          · exact i3 k q k2
          · have : k = o := by omega
            subst this
            simpa using f2
/-- an order that is obeyed: the day after it -/
def clD (s : Sg) (u : Nat) (a b e : Int32) : Sg := if u = 99 then u2 (u2 s 2 (nN a) b) 0 6 (s 0 0) else if u = 116 then lpF (s 0 0 + a) (nN a) s else if u = 115 then u2 s 1 2 a else u2 (u2 (bgF s (nN (s 0 1)) (shP1 u) a b e) 0 6 (s 0 0)) 0 1 (s 0 1 + 1)
/-- what an order wants of a class's day -/
def clOK (n : Nat) (s : Sg) (u : Nat) (a : Int32) : Prop := s 0 1 = nI n ∧ n ≤ 40 ∧ (∀ r, r < 8 → ¬ s 2 r < 0) ∧ ¬ s 1 2 < 0 ∧ (u = 116 → ∃ k, k ≤ 1440 ∧ a = nI k ∧ lpOK n (s 0 0 + nI k) k s ∧ ¬ lpF (s 0 0 + nI k) k s 0 0 < 0)
theorem ma_sh {s : Sg} {u : Nat} {p r w : Int32} : maM s (shP1 u) p r w = maM s 0 p r w := by
  have h : ∀ m : Int32, (0 ≤ m ∧ m ≤ 2) → maM s m p r w = maM s 0 p r w := by
    intro m hm
    have h0 : (0 : Int32) ≤ 0 ∧ (0 : Int32) ≤ 2 := by decide
    unfold maM
    simp only [hm, h0, true_and, and_self]
  refine h _ ?_
  unfold shP1
  by_cases c1 : u = 108
  · rw [if_pos c1]; decide
  · rw [if_neg c1]
    by_cases c2 : u = 102
    · rw [if_pos c2]; decide
    · rw [if_neg c2]; decide
end KR
