/-! the class: put-/
section KU
variable {M : qHp} {K : Nat → Sg} {d v x : Nat → Int32} {P : Nat}
theorem td_n {X : Int64} {n : Nat} : tdOK (byB X) n ↔ (n ≤ 8 ∧ 0 < n ∧ (∀ k, k < n → 33 ≤ byN X k ∧ byN X k ≤ 126) ∧ xN X / 2 ^ (8 * n) = 0) := by
  have rg : ∀ k, k < 8 → ((33 ≤ byB X k ∧ byB X k ≤ 126) ↔ (33 ≤ byN X k ∧ byN X k ≤ 126)) := by
    intro k hk
    have h := @byN_lt X k
    rw [byB_n hk, show (33 : Int32) = nI 33 from rfl, show (126 : Int32) = nI 126 from rfl, nI_le_iff (by omega) (by omega), nI_le_iff (by omega) (by omega)]
  have z0 : ∀ k, k < 8 → (byB X k = 0 ↔ byN X k = 0) := by
    intro k hk
    have h := @byN_lt X k
    rw [byB_n hk, show (0 : Int32) = nI 0 from rfl, nI_eq_iff (by omega) (by omega)]
  have hX : xN X / 2 ^ 64 = 0 := Nat.div_eq_of_lt X.toUInt64.toNat_lt
  have stp : ∀ k, xN X / 2 ^ (8 * k) = 256 * (xN X / 2 ^ (8 * (k + 1))) + byN X k := by
    intro k
    unfold byN
    rw [show 8 * (k + 1) = 8 * k + 8 by omega, Nat.pow_add, ← Nat.div_div_eq_div_mul]
    have := Nat.div_add_mod (xN X / 2 ^ (8 * k)) 256
    omega
  constructor
  · rintro ⟨h1, h2, h3, h4⟩
    refine ⟨h1, h2, fun k hk => (rg k (by omega)).mp (h3 k hk), ?_⟩
    have : ∀ q m, m + q = 8 → n ≤ m → xN X / 2 ^ (8 * m) = 0 := by
      intro q
      induction q with
      | zero =>
        intro m hm _
        have : m = 8 := by omega
        subst this; exact hX
      | succ q ih =>
        intro m hm hn
        have i1 := ih (m + 1) (by omega) (by omega)
        have i2 := (z0 m (by omega)).mp (h4 m hn (by omega))
        have i3 := stp m
        omega
    exact this (8 - n) n (by omega) (Nat.le_refl _)
  · rintro ⟨h1, h2, h3, h4⟩
    refine ⟨h1, h2, fun k hk => (rg k (by omega)).mpr (h3 k hk), fun k k1 k2 => (z0 k k2).mpr ?_⟩
    have : ∀ m, n ≤ m → xN X / 2 ^ (8 * m) = 0 := by
      intro m hm
      induction m with
      | zero => have : n = 0 := by omega
                subst this; exact h4
      | succ m ih =>
        rcases Nat.lt_or_ge m n with q | q
        · have : n = m + 1 := by omega
          rw [← this]; exact h4
        · have i1 := ih q
          have i3 := stp m
          omega
    have i1 := this k k1
    have i3 := stp k
    omega
theorem s_48_go {X : Int64} {n : Nat} (hn : n ≤ 8) (h3 : ∀ k, k < n → 33 ≤ byN X k ∧ byN X k ≤ 126) {a : Nat} {r : Int32} {N : qHp} (hend : ∀ (R : Int64) (l6 : Option Value), xN R = xN X / 2 ^ (8 * n) → qEx 48 (5, [some (.ref a), some (.long X), none, some (.int (nI n)), some (.long R), none, l6, none], [], N) = some (some (.int r), N)) : qRun 48 [.ref a, .long X] N = some (some (.int r), N) := by
  have loop : ∀ (q i : Nat) (R : Int64) (l6 : Option Value), i + q = n → xN R = xN X / 2 ^ (8 * i) → qEx 48 (5, [some (.ref a), some (.long X), none, some (.int (nI i)), some (.long R), none, l6, none], [], N) = some (some (.int r), N) := by
    intro q
    induction q with
    | zero =>
      intro i R l6 hi hR
      have : i = n := by omega
      subst this
      exact hend R l6 hR
    | succ q ih =>
      intro i R l6 hi hR
      have h8 : ((8 : Int32) ≤ nI i) = False := eq_false (by rw [show (8 : Int32) = nI 8 from rfl, nI_le_iff (by omega) (by omega)]; omega)
      have hb := h3 i (by omega)
      have hm : xN R % 256 = byN X i := by rw [hR]; rfl
      have c0 : (lg_cmp R 0 = 0) = False := by
        rw [cmp_0]
        exact eq_false fun z => by rw [z] at hm; omega
      have c1 : (lg_cmp (Int64.ofNat (byN X i)) 33 < 0) = False := by rw [cmp_lo _ byN_lt]; exact eq_false (by omega)
      have c2 : (lg_cmp (Int64.ofNat (byN X i)) 126 ≤ 0) = True := by rw [cmp_hi _ byN_lt]; exact eq_true (by omega)
      have e : R &&& 255 = Int64.ofNat (byN X i) := by rw [and_n, hm]
      have hR2 : xN ((R.toUInt64 >>> ((8 : Int32).toInt64.toUInt64 &&& Int64.toUInt64 63)).toInt64) = xN X / 2 ^ (8 * (i + 1)) := by
        rw [xN_shr (s := 8) (by decide), hR, Nat.div_div_eq_div_mul, ← Nat.pow_add]
        rfl
      rw [x_48_5]
      simp only [x_48_0, x_48_1, x_48_2, x_48_3, x_48_6, x_48_8, x_48_11, x_48_13, x_48_14, x_48_15, x_48_18, x_48_20, x_48_23, x_48_24, x_48_26, x_48_28, x_48_31, x_48_32, x_48_35, x_48_37, x_48_40, x_48_41, x_48_44, x_48_45, x_48_46, x_48_49, x_48_51, x_48_53, x_48_54, x_48_56, x_48_59, x_48_60, Option.bind_some, Option.bind_none, Option.toList_some, Option.toList_none, List.cons_append, List.nil_append, pNl_i, pNl_r, pNl_u, pNl_n, bI_0, bI_1, nn_or, or_nn, not_false_eq_true, not_true_eq_false, i1000, i1e0, true_or, or_true, Decidable.not_not, if_true, if_false, Bool.false_eq_true, Int32.zero_add, true_and, and_true, h8, c0, e, c1, c2, nI_1]
      exact ih (i + 1) _ _ (by omega) hR2
  refine qRun_of ?_ rfl
  rw [en_48]
  simp only [x_48_0, x_48_1, x_48_2, x_48_3, x_48_6, x_48_8, x_48_11, x_48_13, x_48_14, x_48_15, x_48_18, x_48_20, x_48_23, x_48_24, x_48_26, x_48_28, x_48_31, x_48_32, x_48_35, x_48_37, x_48_40, x_48_41, x_48_44, x_48_45, x_48_46, x_48_49, x_48_51, x_48_53, x_48_54, x_48_56, x_48_59, x_48_60, Option.bind_some, Option.bind_none, Option.toList_some, Option.toList_none, List.cons_append, List.nil_append, pNl_i, pNl_r, pNl_u, pNl_n, bI_0, bI_1, nn_or, or_nn, not_false_eq_true, not_true_eq_false, i1000, i1e0, true_or, or_true, Decidable.not_not, if_true, if_false, Bool.false_eq_true, Int32.zero_add, true_and, and_true]
  exact loop n 0 X none (by omega) (by simp)
theorem s_48 {X : Int64} {n a : Nat} {N : qHp} (h : tdOK (byB X) n) : qRun 48 [.ref a, .long X] N = some (some (.int (nI n)), N) := by
  obtain ⟨h1, h2, h3, h4⟩ := td_n.mp h
  refine s_48_go h1 h3 fun R l6 hR => ?_
  rw [h4] at hR
  rw [x_48_5]
  have c0 : (lg_cmp R 0 = 0) = True := by rw [cmp_0]; exact eq_true hR
  by_cases c8 : (8 : Int32) ≤ nI n
  · simp only [x_48_0, x_48_1, x_48_2, x_48_3, x_48_6, x_48_8, x_48_11, x_48_13, x_48_14, x_48_15, x_48_18, x_48_20, x_48_23, x_48_24, x_48_26, x_48_28, x_48_31, x_48_32, x_48_35, x_48_37, x_48_40, x_48_41, x_48_44, x_48_45, x_48_46, x_48_49, x_48_51, x_48_53, x_48_54, x_48_56, x_48_59, x_48_60, Option.bind_some, Option.bind_none, Option.toList_some, Option.toList_none, List.cons_append, List.nil_append, pNl_i, pNl_r, pNl_u, pNl_n, bI_0, bI_1, nn_or, or_nn, not_false_eq_true, not_true_eq_false, i1000, i1e0, true_or, or_true, Decidable.not_not, if_true, if_false, Bool.false_eq_true, Int32.zero_add, true_and, and_true, c8]
  · simp only [x_48_0, x_48_1, x_48_2, x_48_3, x_48_6, x_48_8, x_48_11, x_48_13, x_48_14, x_48_15, x_48_18, x_48_20, x_48_23, x_48_24, x_48_26, x_48_28, x_48_31, x_48_32, x_48_35, x_48_37, x_48_40, x_48_41, x_48_44, x_48_45, x_48_46, x_48_49, x_48_51, x_48_53, x_48_54, x_48_56, x_48_59, x_48_60, Option.bind_some, Option.bind_none, Option.toList_some, Option.toList_none, List.cons_append, List.nil_append, pNl_i, pNl_r, pNl_u, pNl_n, bI_0, bI_1, nn_or, or_nn, not_false_eq_true, not_true_eq_false, i1000, i1e0, true_or, or_true, Decidable.not_not, if_true, if_false, Bool.false_eq_true, Int32.zero_add, true_and, and_true, c8, c0]
end KU
