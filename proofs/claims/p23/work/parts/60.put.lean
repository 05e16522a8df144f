/-! the class: put-/
section KU
variable {M : qHp} {K : Nat → Sg} {d v x : Nat → Int32} {P : Nat}
theorem td_n {X : Int64} {n : Nat} : tdOK (byB X) n ↔ (n ≤ 8 ∧ 0 < n ∧ (∀ k, k < n → 33 ≤ byN X k ∧ byN X k ≤ 126) ∧ xN X / 2 ^ (8 * n) = 0) := by
  have rg : ∀ k, k < 8 → ((33 ≤ byB X k ∧ byB X k ≤ 126) ↔ (33 ≤ byN X k ∧ byN X k ≤ 126)) := by
    intro k hk
    have h := @byN_lt X k
    rw [byB_n hk, show (33 : Int32) = nI 33 from rfl, show (126 : Int32) = nI 126 from rfl, nI_le_iff (by omega) (by omega), nI_le_iff (by omega) (by omega)]
  have z0 : ∀ k, k < 8 → (byB X k = 0 ↔ byN X k = 0) := by
    intro k hk
    have h := @byN_lt X k
    rw [byB_n hk, show (0 : Int32) = nI 0 from rfl, nI_eq_iff (by omega) (by omega)]
  have hX : xN X / 2 ^ 64 = 0 := Nat.div_eq_of_lt X.toUInt64.toNat_lt
  have stp : ∀ k, xN X / 2 ^ (8 * k) = 256 * (xN X / 2 ^ (8 * (k + 1))) + byN X k := by
    intro k
    unfold byN
    rw [show 8 * (k + 1) = 8 * k + 8 by omega, Nat.pow_add, ← Nat.div_div_eq_div_mul]
    have := Nat.div_add_mod (xN X / 2 ^ (8 * k)) 256
    omega
  constructor
  · rintro ⟨h1, h2, h3, h4⟩
    refine ⟨h1, h2, fun k hk => (rg k (by omega)).mp (h3 k hk), ?_⟩
    have : ∀ q m, m + q = 8 → n ≤ m → xN X / 2 ^ (8 * m) = 0 := by
      intro q
      induction q with
      | zero =>
        intro m hm _
        have : m = 8 := by omega
        subst this; exact hX
      | succ q ih =>
        intro m hm hn
        have i1 := ih (m + 1) (by omega) (by omega)
        have i2 := (z0 m (by omega)).mp (h4 m hn (by omega))
        have i3 := stp m
        omega
    exact this (8 - n) n (by omega) (Nat.le_refl _)
  · rintro ⟨h1, h2, h3, h4⟩
    refine ⟨h1, h2, fun k hk => (rg k (by omega)).mpr (h3 k hk), fun k k1 k2 => (z0 k k2).mpr ?_⟩
    have : ∀ m, n ≤ m → xN X / 2 ^ (8 * m) = 0 := by
      intro m hm
      induction m with
      | zero => have : n = 0 := by omega
                subst this; exact h4
      | succ m ih =>
        rcases Nat.lt_or_ge m n with q | q
        · have : n = m + 1 := by omega
          rw [← this]; exact h4
        · have i1 := ih q
          have i3 := stp m
          omega
    have i1 := this k k1
    have i3 := stp k
    omega
end KU
